import com.sun.source.tree.*;
import com.sun.source.util.JavacTask;
import com.sun.source.util.TreeScanner;
import java.io.IOException;
import java.nio.file.Path;
import java.util.ArrayList;
import java.util.HashMap;
import java.util.HashSet;
import java.util.List;
import java.util.Map;
import java.util.Set;
import java.util.TreeMap;
import javax.lang.model.element.Modifier;
import javax.tools.JavaCompiler;
import javax.tools.StandardJavaFileManager;
import javax.tools.ToolProvider;

/**
 * LANGUAGE.md rule by rule, on the tree that javac reads. Methods go by their names alone: two of one name
 * are taken for one that does what both do, which can only find too much.
 */
public final class FormTests {
    private static final Set<Tree.Kind> COMPARISONS = Set.of(Tree.Kind.LESS_THAN, Tree.Kind.LESS_THAN_EQUAL,
        Tree.Kind.GREATER_THAN, Tree.Kind.GREATER_THAN_EQUAL);
    private static final Set<Tree.Kind> DIVISIONS = Set.of(Tree.Kind.DIVIDE, Tree.Kind.REMAINDER);
    private static final Set<Tree.Kind> SET_DIVISIONS = Set.of(Tree.Kind.DIVIDE_ASSIGNMENT, Tree.Kind.REMAINDER_ASSIGNMENT);
    private static final Set<Tree.Kind> BANNED = Set.of(Tree.Kind.THROW, Tree.Kind.TRY, Tree.Kind.CATCH,
        Tree.Kind.SYNCHRONIZED, Tree.Kind.ASSERT, Tree.Kind.LAMBDA_EXPRESSION, Tree.Kind.MEMBER_REFERENCE,
        Tree.Kind.SWITCH_EXPRESSION, Tree.Kind.YIELD);
    /** Calls that look at their first argument against a bound. */
    private static final Set<String> LOOKS = Set.of("isOutside", "holds", "isOn");

    /** One method, or all of one name, of the class or of a class inside. */
    private static final class Part {
        final List<List<String>> parameters = new ArrayList<>();
        final Set<String> looked = new HashSet<>();
        final Set<String> calls = new HashSet<>();
    }

    private record Call(String from, List<? extends ExpressionTree> arguments) {
    }

    private static final Map<String, Part> PARTS = new TreeMap<>();
    private static final Map<String, List<Call>> CALLS = new HashMap<>();
    private static final Set<String> CONSTANTS = new HashSet<>();
    private static final Set<String> CLASSES = new HashSet<>();

    public static void main(String[] args) throws IOException {
        CompilationUnitTree unit = parsed();
        new Gather().scan(unit, null);
        Due.is("methods were found", PARTS.size() > 60 ? 1 : 0, 1);
        new Judge().scan(unit, null);
        depths();
        Due.done();
    }

    private static CompilationUnitTree parsed() throws IOException {
        JavaCompiler compiler = ToolProvider.getSystemJavaCompiler();
        try (StandardJavaFileManager files = compiler.getStandardFileManager(null, null, null)) {
            JavacTask task = (JavacTask) compiler.getTask(null, files, null, null, null,
                files.getJavaFileObjects(Path.of("src/main/java/BoundBraces.java")));
            return task.parse().iterator().next();
        }
    }

    private static String nameOf(MethodInvocationTree call) {
        ExpressionTree select = call.getMethodSelect();
        return select instanceof MemberSelectTree s ? s.getIdentifier().toString() : select.toString();
    }

    private static boolean isLibrary(MethodInvocationTree call) {
        String select = call.getMethodSelect().toString();
        return select.startsWith("Math.") || select.startsWith("Integer.") || select.startsWith("System.");
    }

    /** What each method has, asks and calls. */
    private static final class Gather extends TreeScanner<Void, String> {
        @Override public Void visitClass(ClassTree tree, String in) {
            CLASSES.add(tree.getSimpleName().toString());
            return super.visitClass(tree, in);
        }

        @Override public Void visitMethod(MethodTree tree, String in) {
            String name = tree.getName().toString();
            Part part = PARTS.computeIfAbsent(name, n -> new Part());
            List<String> names = new ArrayList<>();
            for (VariableTree v : tree.getParameters()) names.add(v.getName().toString());
            part.parameters.add(names);
            return super.visitMethod(tree, name);
        }

        @Override public Void visitVariable(VariableTree tree, String in) {
            if (tree.getModifiers().getFlags().contains(Modifier.STATIC)) CONSTANTS.add(tree.getName().toString());
            return super.visitVariable(tree, in);
        }

        @Override public Void visitBinary(BinaryTree tree, String in) {
            if (in != null && COMPARISONS.contains(tree.getKind())) {
                PARTS.get(in).looked.add(tree.getLeftOperand().toString());
                PARTS.get(in).looked.add(tree.getRightOperand().toString());
            }
            return super.visitBinary(tree, in);
        }

        @Override public Void visitMethodInvocation(MethodInvocationTree tree, String in) {
            String name = nameOf(tree);
            if (in != null && !isLibrary(tree)) {
                PARTS.get(in).calls.add(name);
                if (LOOKS.contains(name)) PARTS.get(in).looked.add(tree.getArguments().get(0).toString());
                CALLS.computeIfAbsent(name, n -> new ArrayList<>()).add(new Call(in, tree.getArguments()));
            }
            return super.visitMethodInvocation(tree, in);
        }
    }

    /** An index is looked at in its method or, if it came as an argument, by every caller. */
    private static boolean isLookedAt(String in, ExpressionTree index, int depth) {
        String words = index.toString();
        if (index instanceof LiteralTree || CONSTANTS.contains(words)) return true;
        if (words.matches("Math\\.floorMod\\(\\w+, [A-Z_]+\\)")) return true;
        if (!(index instanceof IdentifierTree) || depth > 9) return false;
        Part part = PARTS.get(in);
        if (part.looked.contains(words)) return true;
        List<Call> calls = CALLS.getOrDefault(in, List.of());
        for (List<String> names : part.parameters) {
            int place = names.indexOf(words);
            if (place < 0) return false;
            for (Call call : calls) {
                if (!isLookedAt(call.from(), call.arguments().get(place), depth + 1)) return false;
            }
        }
        return !calls.isEmpty();
    }

    private static final class Judge extends TreeScanner<Void, String> {
        private static void is(String what, boolean so) {
            Due.is(what, so ? 1 : 0, 1);
        }

        @Override public Void scan(Tree tree, String in) {
            if (tree != null && BANNED.contains(tree.getKind())) is("rules 2, 6: " + tree + " in " + in, false);
            return super.scan(tree, in);
        }

        @Override public Void visitClass(ClassTree tree, String in) {
            is("rule 2: no local or nameless class in " + in, in == null && !tree.getSimpleName().toString().isEmpty());
            Due.says("rule 11: a class some twenty fields beside its constants: " + tree.getSimpleName());
            int fields = 0;
            for (Tree member : tree.getMembers()) {
                if (member instanceof VariableTree v && !v.getModifiers().getFlags().contains(Modifier.STATIC)) fields++;
                if (member instanceof BlockTree) is("rule 5: no initialiser block", false);
            }
            is(fields + " fields", fields <= 20);
            return super.visitClass(tree, in);
        }

        @Override public Void visitMethod(MethodTree tree, String in) {
            is("rule 11: seven parameters at most: " + tree.getName(), tree.getParameters().size() <= 7);
            return super.visitMethod(tree, tree.getName().toString());
        }

        @Override public Void visitVariable(VariableTree tree, String in) {
            Due.says("rules 3, 5: types");
            String type = tree.getType().toString().replace("[]", "");
            is(type + " " + tree.getName(), Set.of("int", "long", "boolean").contains(type) || CLASSES.contains(type));
            if (CONSTANTS.contains(tree.getName().toString())) {
                is(tree.getName() + " is final", tree.getModifiers().getFlags().contains(Modifier.FINAL));
            }
            return super.visitVariable(tree, in);
        }

        @Override public Void visitArrayAccess(ArrayAccessTree tree, String in) {
            Due.says("rule 7: an index is looked at before it is used");
            is(tree + " in " + in, isLookedAt(in, tree.getIndex(), 0));
            return super.visitArrayAccess(tree, in);
        }

        private void judgeDivisor(ExpressionTree divisor, String in) {
            Due.says("rule 7: a divisor is looked at before it divides");
            String words = divisor.toString();
            boolean isNumber = divisor instanceof LiteralTree && !words.equals("0");
            is(words + " in " + in, isNumber || CONSTANTS.contains(words) || PARTS.get(in).looked.contains(words));
        }

        @Override public Void visitBinary(BinaryTree tree, String in) {
            if (DIVISIONS.contains(tree.getKind())) judgeDivisor(tree.getRightOperand(), in);
            return super.visitBinary(tree, in);
        }

        @Override public Void visitCompoundAssignment(CompoundAssignmentTree tree, String in) {
            if (SET_DIVISIONS.contains(tree.getKind())) judgeDivisor(tree.getExpression(), in);
            return super.visitCompoundAssignment(tree, in);
        }

        @Override public Void visitTypeCast(TypeCastTree tree, String in) {
            Due.says("rule 7: a cast is safe");
            is(tree + " in " + in, tree.getType() instanceof PrimitiveTypeTree);
            return super.visitTypeCast(tree, in);
        }

        private void judgeLoop(String condition, String in) {
            Due.says("rule 9: every loop has an end that can be seen from its own lines");
            is(condition + " in " + in, condition.matches(".*[<>].*"));
        }

        @Override public Void visitForLoop(ForLoopTree tree, String in) {
            judgeLoop(String.valueOf(tree.getCondition()), in);
            return super.visitForLoop(tree, in);
        }

        @Override public Void visitWhileLoop(WhileLoopTree tree, String in) {
            judgeLoop(tree.getCondition().toString(), in);
            return super.visitWhileLoop(tree, in);
        }

        @Override public Void visitNewArray(NewArrayTree tree, String in) {
            Due.says("rule 12: rows are made in constructors alone, their lengths are constants");
            is(tree + " in " + in, in == null || in.equals("<init>"));
            for (ExpressionTree length : tree.getDimensions()) is(length.toString(), CONSTANTS.contains(length.toString()));
            return super.visitNewArray(tree, in);
        }

        @Override public Void visitNewClass(NewClassTree tree, String in) {
            Due.says("rule 12: objects are made in constructors alone, which hand out nothing of theirs");
            is(tree + " in " + in, "<init>".equals(in));
            for (ExpressionTree argument : tree.getArguments()) is("no this", !argument.toString().equals("this"));
            return super.visitNewClass(tree, in);
        }

        @Override public Void visitMethodInvocation(MethodInvocationTree tree, String in) {
            Due.says("rules 4, 12: calls");
            String name = nameOf(tree);
            is(name + " is the class's own, or of the library that is left", PARTS.containsKey(name)
                || Set.of("Math.max", "Math.min", "Math.floorMod", "Integer.bitCount", "System.arraycopy", "super")
                    .contains(tree.getMethodSelect().toString()));
            is(name + " is not called by a constructor", !"<init>".equals(in) || name.equals("super"));
            return super.visitMethodInvocation(tree, in);
        }
    }

    private static void depths() {
        Due.says("rules 8, 11: no recursion; calls go at most eight deep");
        for (String name : PARTS.keySet()) {
            int depth = depthOf(name, 1);
            Due.is(name + " goes " + depth + " deep", depth <= 8 ? 1 : 0, 1);
        }
    }

    private static int depthOf(String name, int depth) {
        Part part = PARTS.get(name);
        if (part == null || depth > 30) return depth;
        int most = depth;
        for (String called : part.calls) most = Math.max(most, depthOf(called, depth + 1));
        return most;
    }
}
