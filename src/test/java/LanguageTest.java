import com.sun.source.tree.AssertTree;
import com.sun.source.tree.BinaryTree;
import com.sun.source.tree.CaseTree;
import com.sun.source.tree.ClassTree;
import com.sun.source.tree.CompilationUnitTree;
import com.sun.source.tree.CompoundAssignmentTree;
import com.sun.source.tree.DoWhileLoopTree;
import com.sun.source.tree.EnhancedForLoopTree;
import com.sun.source.tree.ExpressionTree;
import com.sun.source.tree.ForLoopTree;
import com.sun.source.tree.InstanceOfTree;
import com.sun.source.tree.LambdaExpressionTree;
import com.sun.source.tree.LiteralTree;
import com.sun.source.tree.MemberReferenceTree;
import com.sun.source.tree.MethodInvocationTree;
import com.sun.source.tree.MethodTree;
import com.sun.source.tree.NewArrayTree;
import com.sun.source.tree.NewClassTree;
import com.sun.source.tree.SynchronizedTree;
import com.sun.source.tree.ThrowTree;
import com.sun.source.tree.TryTree;
import com.sun.source.tree.Tree;
import com.sun.source.tree.TypeCastTree;
import com.sun.source.tree.VariableTree;
import com.sun.source.tree.WhileLoopTree;
import com.sun.source.util.JavacTask;
import com.sun.source.util.TreePath;
import com.sun.source.util.TreePathScanner;
import com.sun.source.util.Trees;
import java.io.IOException;
import java.lang.reflect.Constructor;
import java.lang.reflect.Field;
import java.lang.reflect.Method;
import java.nio.file.Files;
import java.nio.file.Path;
import java.util.ArrayDeque;
import java.util.ArrayList;
import java.util.Deque;
import java.util.HashMap;
import java.util.LinkedHashMap;
import java.util.LinkedHashSet;
import java.util.List;
import java.util.Map;
import java.util.Set;
import java.util.TreeSet;
import java.util.regex.Matcher;
import java.util.regex.Pattern;
import javax.lang.model.element.Element;
import javax.lang.model.element.ElementKind;
import javax.lang.model.element.ExecutableElement;
import javax.lang.model.element.Modifier;
import javax.lang.model.element.TypeElement;
import javax.lang.model.type.ArrayType;
import javax.lang.model.type.TypeKind;
import javax.lang.model.type.TypeMirror;
import javax.tools.JavaCompiler;
import javax.tools.StandardJavaFileManager;
import javax.tools.ToolProvider;

/** What can be seen of LANGUAGE.md in the source itself, and the face as the document writes it. */
public final class LanguageTest {
    private static final Path SOURCE = Path.of("src/main/java/TenTrials.java");
    private static final Path DOCUMENT = Path.of("../shared/DOC.md");
    private static final Set<String> LIBRARY = Set.of(
        "java.lang.String.length", "java.lang.String.charAt", "java.lang.Math.min", "java.lang.Math.max", "java.lang.Math.abs",
        "java.lang.System.arraycopy", "java.lang.Object.<init>", "java.lang.Enum.<init>");

    private final List<String> faults = new ArrayList<>();
    private final Map<ExecutableElement, Set<ExecutableElement>> calls = new LinkedHashMap<>();
    private final Set<String> privateMethods = new TreeSet<>();
    private final Set<String> publicMethods = new TreeSet<>();
    private CompilationUnitTree unit;
    private Trees trees;
    private int classes;

    public static void main(String[] args) throws IOException {
        LanguageTest test = new LanguageTest();
        test.readSource();
        test.compareFace();
        test.lookAtNames();
        test.lookAtDepth();
        test.faults.forEach(System.out::println);
        System.out.println("LanguageTest: " + test.classes + " classes, " + test.calls.size() + " methods, " + test.faults.size() + " faults");
        if (!test.faults.isEmpty() || test.calls.isEmpty()) {
            System.exit(1);
        }
    }

    private void readSource() throws IOException {
        JavaCompiler compiler = ToolProvider.getSystemJavaCompiler();
        try (StandardJavaFileManager files = compiler.getStandardFileManager(null, null, null)) {
            JavacTask task = (JavacTask) compiler.getTask(null, files, null, List.of("-proc:none"), null, files.getJavaFileObjects(SOURCE));
            unit = task.parse().iterator().next();
            task.analyze();
            trees = Trees.instance(task);
            new Scanner().scan(unit, null);
        }
        if (classes > 12) {
            faults.add("rule 11: " + classes + " classes");
        }
        if (!unit.getImports().isEmpty()) {
            faults.add("rule 4: " + unit.getImports());
        }
    }

    private long line(Tree tree, boolean last) {
        long at = last ? trees.getSourcePositions().getEndPosition(unit, tree) : trees.getSourcePositions().getStartPosition(unit, tree);
        return at < 0 ? 0 : unit.getLineMap().getLineNumber(at);
    }

    private final class Scanner extends TreePathScanner<Void, Void> {
        private ExecutableElement within;

        private void fault(String rule, Tree tree) {
            faults.add("rule " + rule + " at line " + line(tree, false));
        }

        @Override
        public Void visitClass(ClassTree tree, Void nothing) {
            classes++;
            TypeElement type = (TypeElement) trees.getElement(getCurrentPath());
            boolean outer = type.getEnclosingElement().getKind() == ElementKind.PACKAGE;
            boolean isEnum = tree.getKind() == Tree.Kind.ENUM;
            if (!outer && !isEnum && !type.getModifiers().contains(Modifier.STATIC)) {
                fault("2: a class that is not static", tree);
            }
            if (!outer && type.getEnclosingElement().getKind() != ElementKind.CLASS) {
                fault("2: a class within a method", tree);
            }
            int fields = 0;
            for (Tree member : tree.getMembers()) {
                if (member instanceof VariableTree field) {
                    Set<Modifier> flags = field.getModifiers().getFlags();
                    fields += flags.contains(Modifier.STATIC) ? 0 : 1;
                    if (outer && !flags.contains(Modifier.PRIVATE) && !field.getName().contentEquals("NONE")) {
                        fault("1: a field that can be seen", member);
                    }
                    boolean constant = flags.contains(Modifier.FINAL) && String.valueOf(field.getType()).matches("int|long|boolean|char|String");
                    boolean ofEnum = isEnum && trees.getElement(new TreePath(getCurrentPath(), member)).getKind() == ElementKind.ENUM_CONSTANT;
                    if (flags.contains(Modifier.STATIC) && !constant && !ofEnum) {
                        fault("5: a static field", member);
                    }
                }
                if (member.getKind() == Tree.Kind.BLOCK) {
                    fault("5: an initialiser block", member);
                }
            }
            if (fields > 20) {
                fault("11: " + fields + " fields", tree);
            }
            return super.visitClass(tree, nothing);
        }

        @Override
        public Void visitMethod(MethodTree tree, Void nothing) {
            ExecutableElement before = within;
            within = (ExecutableElement) trees.getElement(getCurrentPath());
            calls.put(within, new LinkedHashSet<>());
            Set<Modifier> flags = within.getModifiers();
            boolean outer = within.getEnclosingElement().getSimpleName().contentEquals("TenTrials");
            String name = within.getSimpleName().toString();
            if (outer && !flags.contains(Modifier.PUBLIC) && !flags.contains(Modifier.PRIVATE)) {
                fault("1: a method that can be seen", tree);
            }
            (outer && flags.contains(Modifier.PUBLIC) ? publicMethods : privateMethods).add(name);
            if (tree.getParameters().size() > 7) {
                fault("11: parameters", tree);
            }
            if (line(tree, true) - line(tree, false) >= 60) {
                fault("11: a long method", tree);
            }
            if (Set.of("equals", "hashCode", "toString").contains(name)) {
                fault("6: " + name, tree);
            }
            lookAtType(within.getReturnType(), tree);
            super.visitMethod(tree, nothing);
            within = before;
            return null;
        }

        /** Rule 3: numbers, own classes and String; arrays of numbers, of one or two dimensions, and of own classes, of one. */
        private void lookAtType(TypeMirror type, Tree tree) {
            TypeMirror inner = type;
            int dimensions = 0;
            while (inner instanceof ArrayType array) {
                inner = array.getComponentType();
                dimensions++;
            }
            boolean number = inner.getKind().isPrimitive() || dimensions == 0 && inner.getKind() == TypeKind.VOID;
            boolean own = inner.toString().startsWith("TenTrials");
            boolean text = inner.toString().equals("java.lang.String") && dimensions == 0;
            if (!(number && dimensions <= 2 || own && dimensions <= 1 || text)) {
                fault("3: the type " + type, tree);
            }
        }

        private TypeMirror typeOf(ExpressionTree part) {
            return trees.getTypeMirror(new TreePath(getCurrentPath(), part));
        }

        private boolean isText(ExpressionTree part) {
            return typeOf(part).toString().equals("java.lang.String");
        }

        @Override
        public Void visitVariable(VariableTree tree, Void nothing) {
            lookAtType(trees.getElement(getCurrentPath()).asType(), tree);
            return super.visitVariable(tree, nothing);
        }

        @Override
        public Void visitNewArray(NewArrayTree tree, Void nothing) {
            lookAtType(typeOf(tree), tree);
            return super.visitNewArray(tree, nothing);
        }

        @Override
        public Void visitTypeCast(TypeCastTree tree, Void nothing) {
            if (!typeOf(tree).getKind().isPrimitive()) {
                fault("6: a cast that is none of numbers", tree);
            }
            return super.visitTypeCast(tree, nothing);
        }

        @Override
        public Void visitInstanceOf(InstanceOfTree tree, Void nothing) {
            fault("6: instanceof, of which the class has no need", tree);
            return super.visitInstanceOf(tree, nothing);
        }

        @Override
        public Void visitBinary(BinaryTree tree, Void nothing) {
            if (isText(tree.getLeftOperand()) || isText(tree.getRightOperand())) {
                fault("6, 10: texts that are joined or compared by a sign", tree);
            }
            return super.visitBinary(tree, nothing);
        }

        @Override
        public Void visitCompoundAssignment(CompoundAssignmentTree tree, Void nothing) {
            if (isText(tree.getVariable())) {
                fault("10: a text that is joined by a sign", tree);
            }
            return super.visitCompoundAssignment(tree, nothing);
        }

        @Override
        public Void visitLiteral(LiteralTree tree, Void nothing) {
            if (tree.getValue() instanceof String text && !text.chars().allMatch(c -> c >= 1 && c <= 127)) {
                fault("4: a sign of a constant", tree);
            }
            return super.visitLiteral(tree, nothing);
        }

        /** Rule 9 as far as a condition tells it: one that compares something with a bound. */
        private void lookAtLoop(ExpressionTree condition, Tree tree) {
            if (condition == null || !condition.toString().matches(".*[<>].*")) {
                fault("9: a loop without a bound", tree);
            }
        }

        @Override
        public Void visitForLoop(ForLoopTree tree, Void nothing) {
            lookAtLoop(tree.getCondition(), tree);
            if (tree.getUpdate().size() != 1) {
                fault("9: a loop without a counter", tree);
            }
            return super.visitForLoop(tree, nothing);
        }

        @Override
        public Void visitWhileLoop(WhileLoopTree tree, Void nothing) {
            lookAtLoop(tree.getCondition(), tree);
            return super.visitWhileLoop(tree, nothing);
        }

        @Override
        public Void visitDoWhileLoop(DoWhileLoopTree tree, Void nothing) {
            lookAtLoop(tree.getCondition(), tree);
            return super.visitDoWhileLoop(tree, nothing);
        }

        @Override
        public Void visitEnhancedForLoop(EnhancedForLoopTree tree, Void nothing) {
            if (!(typeOf(tree.getExpression()) instanceof ArrayType)) {
                fault("12: a loop that makes an iterator", tree);
            }
            return super.visitEnhancedForLoop(tree, nothing);
        }

        @Override
        public Void visitCase(CaseTree tree, Void nothing) {
            for (ExpressionTree label : tree.getExpressions()) {
                if (isText(label)) {
                    fault("10: a switch on texts", tree);
                }
            }
            return super.visitCase(tree, nothing);
        }

        private void called(Element element, Tree tree) {
            ExecutableElement method = (ExecutableElement) element;
            String full = method.getEnclosingElement() + "." + method.getSimpleName();
            boolean own = full.startsWith("TenTrials");
            if (!own && !LIBRARY.contains(full)) {
                fault("4: " + full, tree);
            }
            if (own && within != null) {
                calls.get(within).add(method);
            }
        }

        @Override
        public Void visitMethodInvocation(MethodInvocationTree tree, Void nothing) {
            called(trees.getElement(getCurrentPath()), tree);
            return super.visitMethodInvocation(tree, nothing);
        }

        @Override
        public Void visitNewClass(NewClassTree tree, Void nothing) {
            called(trees.getElement(getCurrentPath()), tree);
            if (tree.getClassBody() != null) {
                fault("2: a class without a name", tree);
            }
            return super.visitNewClass(tree, nothing);
        }

        @Override
        public Void visitTry(TryTree tree, Void nothing) {
            fault("6: try", tree);
            return super.visitTry(tree, nothing);
        }

        @Override
        public Void visitThrow(ThrowTree tree, Void nothing) {
            fault("6: throw", tree);
            return super.visitThrow(tree, nothing);
        }

        @Override
        public Void visitSynchronized(SynchronizedTree tree, Void nothing) {
            fault("6: synchronized", tree);
            return super.visitSynchronized(tree, nothing);
        }

        @Override
        public Void visitAssert(AssertTree tree, Void nothing) {
            fault("6: assert", tree);
            return super.visitAssert(tree, nothing);
        }

        @Override
        public Void visitLambdaExpression(LambdaExpressionTree tree, Void nothing) {
            fault("2: a lambda", tree);
            return super.visitLambdaExpression(tree, nothing);
        }

        @Override
        public Void visitMemberReference(MemberReferenceTree tree, Void nothing) {
            fault("2: a method reference", tree);
            return super.visitMemberReference(tree, nothing);
        }
    }

    private void compareFace() throws IOException {
        String document = Files.readString(DOCUMENT);
        Set<String> due = new TreeSet<>(Set.of("NONE", "TenTrials()"));
        Matcher rows = Pattern.compile("(?m)^    public int (\\w+\\(.*\\));$").matcher(document);
        while (rows.find()) {
            due.add(rows.group(1).replaceAll("int \\w+", "int"));
        }
        Set<String> there = new TreeSet<>();
        for (Field field : TenTrials.class.getDeclaredFields()) {
            if (!java.lang.reflect.Modifier.isPrivate(field.getModifiers())) {
                there.add(field.getName());
            }
        }
        for (Constructor<?> constructor : TenTrials.class.getDeclaredConstructors()) {
            there.add("TenTrials" + listed(constructor.getParameterTypes()));
        }
        for (Method method : TenTrials.class.getDeclaredMethods()) {
            if (!java.lang.reflect.Modifier.isPrivate(method.getModifiers())) {
                there.add(method.getName() + listed(method.getParameterTypes()));
            }
        }
        if (due.size() < 50 || !due.equals(there)) {
            faults.add("rule 1: the face is " + there + ", due is " + due);
        }
    }

    private static String listed(Class<?>[] types) {
        List<String> names = new ArrayList<>();
        for (Class<?> type : types) {
            names.add(type.getName());
        }
        return "(" + String.join(", ", names) + ")";
    }

    private void lookAtNames() {
        for (String name : publicMethods) {
            if (privateMethods.contains(name) && !name.equals("<init>")) {
                faults.add("rule 1: a private method bears the name " + name);
            }
        }
    }

    /** Calls that are no recursion go at most eight deep: methods that call one another count as one. */
    private void lookAtDepth() {
        Map<ExecutableElement, Set<ExecutableElement>> reach = new HashMap<>();
        calls.keySet().forEach(m -> reach.put(m, reachable(m)));
        for (ExecutableElement m : calls.keySet()) {
            int depth = depth(m, reach, 0);
            if (depth > 8) {
                faults.add("rule 11: " + m + " goes " + depth + " deep");
            }
        }
    }

    private Set<ExecutableElement> reachable(ExecutableElement from) {
        Set<ExecutableElement> seen = new LinkedHashSet<>();
        Deque<ExecutableElement> open = new ArrayDeque<>(calls.getOrDefault(from, Set.of()));
        while (!open.isEmpty()) {
            ExecutableElement m = open.pop();
            if (seen.add(m)) {
                open.addAll(calls.getOrDefault(m, Set.of()));
            }
        }
        return seen;
    }

    private int depth(ExecutableElement m, Map<ExecutableElement, Set<ExecutableElement>> reach, int level) {
        Set<ExecutableElement> ring = new LinkedHashSet<>(Set.of(m));
        for (ExecutableElement other : reach.getOrDefault(m, Set.of())) {
            if (reach.getOrDefault(other, Set.of()).contains(m)) {
                ring.add(other);
            }
        }
        int deepest = 0;
        for (ExecutableElement member : ring) {
            for (ExecutableElement next : calls.getOrDefault(member, Set.of())) {
                if (!ring.contains(next) && level < 100) {
                    deepest = Math.max(deepest, depth(next, reach, level + 1));
                }
            }
        }
        return deepest + 1;
    }
}
