import com.sun.source.tree.AssignmentTree;
import com.sun.source.tree.BinaryTree;
import com.sun.source.tree.ClassTree;
import com.sun.source.tree.CompilationUnitTree;
import com.sun.source.tree.ExpressionTree;
import com.sun.source.tree.MethodInvocationTree;
import com.sun.source.tree.MethodTree;
import com.sun.source.tree.NewClassTree;
import com.sun.source.tree.Tree;
import com.sun.source.tree.VariableTree;
import com.sun.source.util.JavacTask;
import com.sun.source.util.SourcePositions;
import com.sun.source.util.TreePath;
import com.sun.source.util.TreePathScanner;
import com.sun.source.util.Trees;
import java.io.IOException;
import java.nio.file.Path;
import java.util.ArrayDeque;
import java.util.Deque;
import java.util.HashMap;
import java.util.LinkedHashMap;
import java.util.LinkedHashSet;
import java.util.List;
import java.util.Map;
import java.util.Set;
import javax.lang.model.element.Element;
import javax.lang.model.element.ElementKind;
import javax.lang.model.element.ExecutableElement;
import javax.lang.model.element.Modifier;
import javax.lang.model.element.TypeElement;
import javax.lang.model.type.ArrayType;
import javax.lang.model.type.DeclaredType;
import javax.lang.model.type.TypeKind;
import javax.lang.model.type.TypeMirror;
import javax.tools.JavaCompiler;
import javax.tools.StandardJavaFileManager;
import javax.tools.ToolProvider;

/** The rules of LANGUAGE.md that can be looked up in the source, as the compiler reads it. */
public final class LanguageTest {
    private static final int CALLS_DEEP = 8, METHOD_LINES = 60, PARAMETERS = 7, CLASSES = 12, FIELDS = 20;

    /** Rule 2 and 6, and casts of references, which the class does without. */
    private static final Set<Tree.Kind> BANNED = Set.of(
        Tree.Kind.THROW, Tree.Kind.TRY, Tree.Kind.CATCH, Tree.Kind.SYNCHRONIZED, Tree.Kind.ASSERT,
        Tree.Kind.LAMBDA_EXPRESSION, Tree.Kind.MEMBER_REFERENCE, Tree.Kind.IMPORT, Tree.Kind.PACKAGE,
        Tree.Kind.BINDING_PATTERN, Tree.Kind.SWITCH_EXPRESSION, Tree.Kind.NULL_LITERAL,
        Tree.Kind.DOUBLE_LITERAL, Tree.Kind.FLOAT_LITERAL, Tree.Kind.ANNOTATION);

    /** Rule 4, as far as the class makes use of it. */
    private static final Set<String> LIBRARY = Set.of(
        "String.length", "String.charAt", "Integer.bitCount", "Math.min", "Math.max", "Math.floorMod");

    private static final Checks C = new Checks();

    public static void main(String[] args) throws IOException {
        JavaCompiler compiler = ToolProvider.getSystemJavaCompiler();
        String source = System.getProperty("source", "src/main/java/QuarrelDesk.java");
        try (StandardJavaFileManager files = compiler.getStandardFileManager(null, null, null)) {
            JavacTask task = (JavacTask) compiler.getTask(null, files, null, List.of("--release", "17", "-proc:none"),
                null, files.getJavaFileObjects(Path.of(source)));
            CompilationUnitTree unit = task.parse().iterator().next();
            task.analyze();
            Reader reader = new Reader(task, unit);
            reader.scan(unit, null);
            C.due("rule 11: some twelve classes", reader.classes <= CLASSES ? 1 : 0, 1);
            callsAreShallow(reader);
        }
        C.end();
    }

    private static void callsAreShallow(Reader reader) {
        Map<ExecutableElement, Integer> known = new HashMap<>();
        int methods = 0;
        for (ExecutableElement method : reader.calls.keySet()) {
            Deque<String> chain = new ArrayDeque<>();
            int deep = deep(reader, method, known, chain);
            C.due("rule 11: calls from " + name(method) + " at most eight deep, not " + deep, deep <= CALLS_DEEP ? 1 : 0, 1);
            methods++;
        }
        C.due("methods were read", methods > 60 ? 1 : 0, 1);
    }

    /** The most calls that stand open at once, this one and the library's own counted. */
    private static int deep(Reader reader, ExecutableElement method, Map<ExecutableElement, Integer> known, Deque<String> chain) {
        Integer before = known.get(method);
        if (before != null) {
            return before;
        }
        if (chain.contains(method.toString() + method.getEnclosingElement())) {
            C.due("rule 8: no method calls itself: " + name(method), 0, 1);
            return CALLS_DEEP + 1;
        }
        chain.push(method.toString() + method.getEnclosingElement());
        int most = 0;
        for (ExecutableElement called : reader.calls.getOrDefault(method, Set.of())) {
            for (ExecutableElement body : reader.bodies(called)) {
                most = Math.max(most, deep(reader, body, known, chain));
            }
        }
        chain.pop();
        known.put(method, most + 1);
        return most + 1;
    }

    private static String name(Element member) {
        return member.getEnclosingElement().getSimpleName() + "." + member.getSimpleName();
    }

    private static final class Reader extends TreePathScanner<Void, Void> {
        final Map<ExecutableElement, Set<ExecutableElement>> calls = new LinkedHashMap<>();
        int classes;
        private final JavacTask task;
        private final Trees trees;
        private final CompilationUnitTree unit;
        private ExecutableElement open;

        Reader(JavacTask task, CompilationUnitTree unit) {
            this.task = task;
            this.unit = unit;
            trees = Trees.instance(task);
        }

        /** What a call may run: the method, or one of those that stand over it in classes under its own. */
        Set<ExecutableElement> bodies(ExecutableElement called) {
            Set<ExecutableElement> bodies = new LinkedHashSet<>(Set.of(called));
            for (ExecutableElement other : calls.keySet()) {
                if (task.getElements().overrides(other, called, (TypeElement) other.getEnclosingElement())) {
                    bodies.add(other);
                }
            }
            return bodies;
        }

        @Override
        public Void scan(Tree tree, Void none) {
            if (tree != null && BANNED.contains(tree.getKind())) {
                C.due("rules 2, 3, 6: no " + tree.getKind() + ": " + tree, 0, 1);
            }
            return super.scan(tree, none);
        }

        @Override
        public Void visitClass(ClassTree tree, Void none) {
            classes++;
            Element element = trees.getElement(getCurrentPath());
            boolean isInside = element.getEnclosingElement() instanceof TypeElement;
            boolean isOpen = element.getModifiers().contains(Modifier.PUBLIC);
            C.due("rule 1: one class is public: " + element, isOpen != isInside ? 1 : 0, 1);
            C.due("rule 2: static inside: " + element,
                element.getModifiers().contains(Modifier.STATIC) == isInside ? 1 : 0, 1);
            int fields = 0;
            for (Element member : element.getEnclosedElements()) {
                if (member.getKind() == ElementKind.FIELD) {
                    fields += member.getModifiers().contains(Modifier.STATIC) ? 0 : 1;
                }
                C.due("rule 5: no initialiser block in " + element, member.getKind() == ElementKind.STATIC_INIT
                    || member.getKind() == ElementKind.INSTANCE_INIT ? 1 : 0, 0);
            }
            C.due("rule 11: some twenty fields: " + element, fields <= FIELDS ? 1 : 0, 1);
            return super.visitClass(tree, none);
        }

        @Override
        public Void visitMethod(MethodTree tree, Void none) {
            ExecutableElement outer = open;
            open = (ExecutableElement) trees.getElement(getCurrentPath());
            calls.put(open, new LinkedHashSet<>());
            SourcePositions places = trees.getSourcePositions();
            long lines = line(places.getEndPosition(unit, tree)) - line(places.getStartPosition(unit, tree)) + 1;
            C.due("rule 11: a short method: " + name(open), lines <= METHOD_LINES ? 1 : 0, 1);
            C.due("rule 11: few parameters: " + name(open), tree.getParameters().size() <= PARAMETERS ? 1 : 0, 1);
            super.visitMethod(tree, none);
            open = outer;
            return null;
        }

        private long line(long place) {
            return place < 0 ? 0 : unit.getLineMap().getLineNumber(place);
        }

        @Override
        public Void visitVariable(VariableTree tree, Void none) {
            Element element = trees.getElement(getCurrentPath());
            C.due("rule 3: the type of " + tree, isOfTheLanguage(element.asType()) ? 1 : 0, 1);
            if (element.getModifiers().contains(Modifier.STATIC)) {
                C.due("rule 5: final: " + tree, element.getModifiers().contains(Modifier.FINAL) ? 1 : 0, 1);
            }
            return super.visitVariable(tree, none);
        }

        private boolean isOfTheLanguage(TypeMirror type) {
            if (type.getKind() == TypeKind.ARRAY) {
                TypeMirror part = ((ArrayType) type).getComponentType();
                return part.getKind() != TypeKind.ARRAY && isOfTheLanguage(part);
            }
            if (type.getKind() == TypeKind.DECLARED) {
                return isOwn(((DeclaredType) type).asElement()) || type.toString().equals("java.lang.String");
            }
            return type.getKind() == TypeKind.INT || type.getKind() == TypeKind.BOOLEAN;
        }

        private static boolean isOwn(Element element) {
            return element.toString().startsWith("QuarrelDesk");
        }

        @Override
        public Void visitMethodInvocation(MethodInvocationTree tree, Void none) {
            called((ExecutableElement) trees.getElement(getCurrentPath()));
            return super.visitMethodInvocation(tree, none);
        }

        @Override
        public Void visitNewClass(NewClassTree tree, Void none) {
            called((ExecutableElement) trees.getElement(getCurrentPath()));
            C.due("rule 2: no class without a name: " + tree, tree.getClassBody() == null ? 1 : 0, 1);
            return super.visitNewClass(tree, none);
        }

        private void called(ExecutableElement method) {
            boolean isSuper = method.getKind() == ElementKind.CONSTRUCTOR && !isOwn(method.getEnclosingElement());
            if (isSuper) {
                return;
            }
            if (!isOwn(method.getEnclosingElement())) {
                C.due("rule 4: the library has " + name(method), LIBRARY.contains(name(method)) ? 1 : 0, 1);
            }
            calls.get(open).add(method);
        }

        @Override
        public Void visitBinary(BinaryTree tree, Void none) {
            boolean isText = isText(tree.getLeftOperand()) || isText(tree.getRightOperand());
            C.due("rules 6, 10: no sign between texts: " + tree, isText ? 0 : 1, 1);
            return super.visitBinary(tree, none);
        }

        @Override
        public Void visitAssignment(AssignmentTree tree, Void none) {
            Element to = trees.getElement(new TreePath(getCurrentPath(), tree.getVariable()));
            C.due("rule 5: no static is set: " + tree,
                to != null && to.getModifiers().contains(Modifier.STATIC) ? 1 : 0, 0);
            return super.visitAssignment(tree, none);
        }

        private boolean isText(ExpressionTree part) {
            TypeMirror type = trees.getTypeMirror(new TreePath(getCurrentPath(), part));
            return type != null && type.toString().equals("java.lang.String");
        }
    }
}
