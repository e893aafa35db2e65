import com.sun.source.tree.*;
import com.sun.source.util.JavacTask;
import com.sun.source.util.TreePathScanner;
import com.sun.source.util.Trees;
import java.io.IOException;
import java.nio.file.Files;
import java.nio.file.Path;
import java.util.HashMap;
import java.util.HashSet;
import java.util.List;
import java.util.Map;
import java.util.Set;
import javax.lang.model.element.Element;
import javax.lang.model.element.Modifier;
import javax.tools.JavaCompiler;
import javax.tools.StandardJavaFileManager;
import javax.tools.ToolProvider;

/**
 * The class keeps to those rules of ../shared/LANGUAGE.md that can be read off its text; a fault is told
 * by the rule's number. What the class does not use (recursion, try, lists) is told as a fault, too, so
 * that whoever comes to need it looks at its rule first.
 */
public final class RulesTest extends TreePathScanner<Void, Void> {
    private static final Path FILE = Path.of("src/main/java/Hashladder.java");
    private static final Set<String> LIBRARY = Set.of(
            "String.length", "String.charAt", "String.isEmpty", "String.equals", "String.substring", "String.toCharArray",
            "StringBuilder.append", "StringBuilder.charAt", "StringBuilder.setCharAt", "StringBuilder.setLength",
            "StringBuilder.deleteCharAt", "StringBuilder.reverse", "StringBuilder.length", "StringBuilder.toString",
            "Math.max", "Math.min", "Math.abs", "Math.floorMod", "Math.floorDiv", "System.arraycopy");
    private static final Set<String> THROWN = Set.of("IllegalStateException", "IllegalArgumentException",
            "IndexOutOfBoundsException");
    private static final Set<String> CONSTANTS = Set.of("int", "long", "boolean", "char", "String");
    private static final Set<Tree.Kind> RULED_OUT = Set.of(
            Tree.Kind.LAMBDA_EXPRESSION, Tree.Kind.MEMBER_REFERENCE, Tree.Kind.SYNCHRONIZED, Tree.Kind.ASSERT,
            Tree.Kind.TRY, Tree.Kind.INSTANCE_OF, Tree.Kind.TYPE_CAST, Tree.Kind.FLOAT_LITERAL,
            Tree.Kind.DOUBLE_LITERAL, Tree.Kind.IMPORT, Tree.Kind.PACKAGE);
    private static final int MOST_CLASSES = 12;
    private static final int MOST_FIELDS = 20;
    private static final int MOST_PARAMETERS = 7;
    private static final int MOST_LINES = 60;
    private static final int MOST_CALLS_OPEN = 8;

    private final CompilationUnitTree unit;
    private final Trees trees;
    private final Map<Element, Set<Element>> callsOf = new HashMap<>();
    private int classes;
    private int wrong;

    private RulesTest(CompilationUnitTree unit, Trees trees) {
        this.unit = unit;
        this.trees = trees;
    }

    public static void main(String[] args) throws IOException {
        JavaCompiler compiler = ToolProvider.getSystemJavaCompiler();
        try (StandardJavaFileManager files = compiler.getStandardFileManager(null, null, null)) {
            JavacTask task = (JavacTask) compiler.getTask(null, files, null, List.of("-proc:none"), null,
                    files.getJavaFileObjects(FILE));
            CompilationUnitTree unit = task.parse().iterator().next();
            task.analyze();
            RulesTest test = new RulesTest(unit, Trees.instance(task));
            test.scan(unit, null);
            test.needWholeFile();
            System.out.println(test.callsOf.size() + " methods, " + test.wrong + " faults");
            System.exit(test.wrong == 0 && test.callsOf.size() >= 52 ? 0 : 1);
        }
    }

    private void needWholeFile() throws IOException {
        need(1, unit.getTypeDecls().size() == 1, unit, "more than one class at the top");
        need(11, classes <= MOST_CLASSES, unit, classes + " classes");
        for (byte sign : Files.readAllBytes(FILE)) {
            need(4, sign > 0, unit, "a sign that is not 1 to 127");
        }
        for (Element method : callsOf.keySet()) {
            int open = callsOpen(method, new HashSet<>());
            need(open > 1000 ? 8 : 11, open <= MOST_CALLS_OPEN, unit, method + " has " + open + " calls open at once");
        }
    }

    private int callsOpen(Element method, Set<Element> open) {
        if (!open.add(method)) {
            return 1_000_000;
        }
        int most = 0;
        for (Element called : callsOf.getOrDefault(method, Set.of())) {
            most = Math.max(most, callsOpen(called, open));
        }
        open.remove(method);
        return most + 1;
    }

    // ---- what the tree holds

    @Override
    public Void scan(Tree tree, Void none) {
        if (tree != null && RULED_OUT.contains(tree.getKind()) && !isCastToChar(tree)) {
            need(2, false, tree, "holds a " + tree.getKind());
        }
        return super.scan(tree, none);
    }

    private static boolean isCastToChar(Tree tree) {
        return tree instanceof TypeCastTree cast && cast.getType().toString().equals("char");
    }

    @Override
    public Void visitClass(ClassTree tree, Void none) {
        classes++;
        int fields = 0;
        for (Tree member : tree.getMembers()) {
            need(5, !(member instanceof BlockTree), member, "a block beside the methods");
            if (member instanceof VariableTree field) {
                fields += isStatic(field) ? 0 : 1;
                need(5, !isStatic(field) || isConstant(field), field, "a static field that is no constant");
            }
        }
        need(11, fields <= MOST_FIELDS, tree, fields + " fields");
        return super.visitClass(tree, none);
    }

    private static boolean isStatic(VariableTree field) {
        return field.getModifiers().getFlags().contains(Modifier.STATIC);
    }

    private static boolean isConstant(VariableTree field) {
        return field.getModifiers().getFlags().contains(Modifier.FINAL)
                && CONSTANTS.contains(field.getType().toString());
    }

    @Override
    public Void visitMethod(MethodTree tree, Void none) {
        callsOf.put(trees.getElement(getCurrentPath()), new HashSet<>());
        need(11, tree.getParameters().size() <= MOST_PARAMETERS, tree, "many parameters");
        long lines = lineOf(tree, true) - lineOf(tree, false) + 1;
        need(11, lines <= MOST_LINES, tree, lines + " lines");
        return super.visitMethod(tree, none);
    }

    @Override
    public Void visitMethodInvocation(MethodInvocationTree tree, Void none) {
        noteCall(trees.getElement(getCurrentPath()), tree);
        return super.visitMethodInvocation(tree, none);
    }

    @Override
    public Void visitNewClass(NewClassTree tree, Void none) {
        String name = tree.getIdentifier().toString();
        boolean isThrown = getCurrentPath().getParentPath().getLeaf() instanceof ThrowTree;
        if (!isThrown && !name.equals("StringBuilder")) {
            noteCall(trees.getElement(getCurrentPath()), tree);
        }
        return super.visitNewClass(tree, none);
    }

    private void noteCall(Element called, Tree tree) {
        String owner = called.getEnclosingElement().toString();
        if (owner.equals("Hashladder") || owner.startsWith("Hashladder.")) {
            callsOf.get(methodHere()).add(called);
        } else if (!called.toString().equals("Object()")) {
            // The builder has some of its methods from a class above it that has no name outside.
            String name = owner.replace("java.lang.", "").replace("AbstractString", "String") + "." + called.getSimpleName();
            need(4, LIBRARY.contains(name), tree, "calls " + name);
        }
    }

    private Element methodHere() {
        var path = getCurrentPath();
        while (!(path.getLeaf() instanceof MethodTree)) {
            path = path.getParentPath();
        }
        return trees.getElement(path);
    }

    @Override
    public Void visitThrow(ThrowTree tree, Void none) {
        boolean isWritten = tree.getExpression() instanceof NewClassTree made
                && THROWN.contains(made.getIdentifier().toString())
                && made.getArguments().stream().allMatch(a -> a.getKind() == Tree.Kind.STRING_LITERAL);
        need(6, isWritten, tree, "throws otherwise than by new E(\"a written text\")");
        need(6, !methodHere().getSimpleName().contentEquals("<init>"), tree, "a throw in a constructor");
        return super.visitThrow(tree, none);
    }

    @Override
    public Void visitBinary(BinaryTree tree, Void none) {
        String type = String.valueOf(trees.getTypeMirror(getCurrentPath()));
        need(10, !type.equals("java.lang.String"), tree, "joins texts by +");
        return super.visitBinary(tree, none);
    }

    // ---- telling

    private long lineOf(Tree tree, boolean isEnd) {
        var places = trees.getSourcePositions();
        long place = isEnd ? places.getEndPosition(unit, tree) : places.getStartPosition(unit, tree);
        return place < 0 ? 0 : unit.getLineMap().getLineNumber(place);
    }

    private void need(int rule, boolean isKept, Tree tree, String fault) {
        if (!isKept) {
            wrong++;
            System.out.println("rule " + rule + ", line " + lineOf(tree, false) + ": " + fault);
        }
    }
}
