import com.sun.source.tree.*;
import com.sun.source.util.JavacTask;
import com.sun.source.util.TreePath;
import com.sun.source.util.TreePathScanner;
import com.sun.source.util.Trees;
import java.lang.reflect.Constructor;
import java.lang.reflect.Field;
import java.lang.reflect.Method;
import java.lang.reflect.Modifier;
import java.nio.file.Path;
import java.util.ArrayList;
import java.util.HashMap;
import java.util.HashSet;
import java.util.List;
import java.util.Map;
import java.util.Set;
import java.util.TreeSet;
import javax.lang.model.element.Element;
import javax.lang.model.element.ElementKind;
import javax.lang.model.element.ExecutableElement;
import javax.lang.model.element.TypeElement;
import javax.tools.JavaCompiler;
import javax.tools.StandardJavaFileManager;
import javax.tools.ToolProvider;

/**
 * Holds CoinLand.java against what a program can see of ../shared/LANGUAGE.md: the face (1), classes
 * (2), types (3), the library (4), static fields (5), statements (6), recursion (8), loops (9), sizes (11).
 */
public final class LanguageTest {
    private static final Set<String> FACE = Set.of(
        "int feed(int)", "int land()", "int coin(int,int,int,int)", "int of(int,int)", "int row(int,int,int)",
        "int set(int,int,int)", "int ware(int)", "int pass(int)", "int told(int)", "int buy(int,int,int,int,int)",
        "int left()", "int range(int,int)", "int known()", "long likely(int,int,int)", "int alike(int,int)",
        "int wrong()", "int cheated()", "int hold(int)", "int pay(int,int)", "int ways(int)", "int change(int)",
        "int never()", "int carry(int,int)", "long rate(int,int,int)", "int bought(int,int)",
        "int slate(int,int,int)", "int counts(int)", "long odds(int,int)", "long mean(int)", "int lasting(int)",
        "int plan(int)", "int made(int)", "int book(int,int)", "int looked()", "int act(int,int,int)",
        "int trace(int)", "int as(int,int)", "int image()", "int undo()", "int count(int)");
    private static final Set<String> LIBRARY = Set.of(
        "java.lang.String.length()", "java.lang.String.charAt(int)", "java.lang.String.indexOf(int)",
        "java.lang.Math.max(int,int)", "java.lang.Math.min(int,int)", "java.lang.Math.abs(int)",
        "java.lang.Integer.compare(int,int)", "java.util.Arrays.copyOf(int[],int)", "java.util.Arrays.fill(int[],int)",
        "java.lang.System.arraycopy(java.lang.Object,int,java.lang.Object,int,int)");
    private static final Set<Tree.Kind> FORBIDDEN = Set.of(
        Tree.Kind.THROW, Tree.Kind.TRY, Tree.Kind.SYNCHRONIZED, Tree.Kind.ASSERT, Tree.Kind.LAMBDA_EXPRESSION,
        Tree.Kind.MEMBER_REFERENCE, Tree.Kind.SWITCH_EXPRESSION, Tree.Kind.INSTANCE_OF,
        Tree.Kind.WHILE_LOOP, Tree.Kind.DO_WHILE_LOOP, Tree.Kind.DOUBLE_LITERAL, Tree.Kind.FLOAT_LITERAL);
    private static final Set<String> FACE_NAMES = new HashSet<>();

    private static final List<String> faults = new ArrayList<>();
    private static final Map<String, Set<String>> callsOf = new HashMap<>();
    private static final Map<String, Boolean> hasDepth = new HashMap<>();
    private static int classes = 0;

    public static void main(String[] args) throws Exception {
        for (String method : FACE) {
            FACE_NAMES.add(method.substring(method.indexOf(' ') + 1, method.indexOf('(')));
        }
        lookAtFace();
        readSource(Path.of(args.length > 0 ? args[0] : "src/main/java/CoinLand.java"));
        if (classes > 12) {
            faults.add("rule 11: " + classes + " classes");
        }
        for (String method : callsOf.keySet()) {
            int depth = depth(method, new ArrayList<>());
            if (depth > 8) {
                faults.add("rule 11: calls from " + method + " go " + depth + " deep");
            }
        }
        faults.forEach(System.out::println);
        System.out.println("LanguageTest: " + faults.size() + " faults");
        if (!faults.isEmpty()) {
            System.exit(1);
        }
    }

    private static void lookAtFace() {
        Set<String> found = new TreeSet<>();
        for (Method method : CoinLand.class.getDeclaredMethods()) {
            List<String> types = new ArrayList<>();
            for (Class<?> type : method.getParameterTypes()) {
                types.add(type.getName());
            }
            if (!Modifier.isPrivate(method.getModifiers())) {
                found.add(method.getReturnType().getName() + " " + method.getName() + "(" + String.join(",", types) + ")");
            }
        }
        require(found.equals(new TreeSet<>(FACE)), "rule 1: the methods of the face are " + found);
        Set<String> constants = new TreeSet<>();
        for (Field field : CoinLand.class.getDeclaredFields()) {
            if (!Modifier.isPrivate(field.getModifiers())) {
                constants.add(Modifier.toString(field.getModifiers()) + " " + field.getType() + " " + field.getName());
            }
        }
        require(constants.equals(Set.of("public static final int NONE", "public static final int BAD",
            "public static final int STATE", "public static final int FULL", "public static final long NO")),
            "rule 1: the constants of the face are " + constants);
        require(Modifier.toString(CoinLand.class.getModifiers()).equals("public final"), "rule 1: public final");
        Constructor<?>[] constructors = CoinLand.class.getDeclaredConstructors();
        require(constructors.length == 1 && constructors[0].getParameterCount() == 0
            && Modifier.isPublic(constructors[0].getModifiers()), "rule 1: the constructor");
        for (Class<?> inside : CoinLand.class.getDeclaredClasses()) {
            int modifiers = inside.getModifiers();
            require(Modifier.isStatic(modifiers) && !Modifier.isPublic(modifiers) && !Modifier.isProtected(modifiers),
                "rules 1, 2: " + inside);
        }
    }

    private static void require(boolean isSo, String rule) {
        if (!isSo) {
            faults.add(rule);
        }
    }

    private static void readSource(Path file) throws Exception {
        JavaCompiler compiler = ToolProvider.getSystemJavaCompiler();
        try (StandardJavaFileManager files = compiler.getStandardFileManager(null, null, null)) {
            JavacTask task = (JavacTask) compiler.getTask(null, files, null, List.of("-proc:none"), null,
                files.getJavaFileObjects(file));
            Trees trees = Trees.instance(task);
            for (CompilationUnitTree unit : task.parse()) {
                require(unit.getPackageName() == null, "a package line");
                task.analyze();
                new Reader(trees, unit).scan(unit, null);
            }
        }
    }

    /** How deep the calls below a method go, itself and the library's counted; recursion is not followed. */
    private static int depth(String method, List<String> above) {
        if (above.contains(method)) {
            boolean isGuarded = false;
            for (String open : above.subList(above.indexOf(method), above.size())) {
                isGuarded |= hasDepth.getOrDefault(open, false);
            }
            require(isGuarded, "rule 8: " + method + " calls itself without a depth");
            return 0;
        }
        above.add(method);
        int deepest = 0;
        for (String called : callsOf.getOrDefault(method, Set.of())) {
            deepest = Math.max(deepest, depth(called, above));
        }
        above.remove(above.size() - 1);
        return deepest + 1;
    }

    private static final class Reader extends TreePathScanner<Void, Void> {
        private final Trees trees;
        private final CompilationUnitTree unit;
        private String method = "";

        Reader(Trees trees, CompilationUnitTree unit) {
            this.trees = trees;
            this.unit = unit;
        }

        private long line(Tree tree, boolean isEnd) {
            long place = isEnd ? trees.getSourcePositions().getEndPosition(unit, tree)
                : trees.getSourcePositions().getStartPosition(unit, tree);
            return unit.getLineMap().getLineNumber(place);
        }

        private void fault(Tree tree, String rule) {
            faults.add("line " + line(tree, false) + ": " + rule);
        }

        @Override public Void scan(Tree tree, Void nothing) {
            if (tree != null && FORBIDDEN.contains(tree.getKind())) {
                fault(tree, "a " + tree.getKind() + " (rules 2, 6, 9; or not wanted here)");
            }
            return super.scan(tree, nothing);
        }

        @Override public Void visitImport(ImportTree tree, Void nothing) {
            if (!tree.toString().trim().equals("import java.util.Arrays;")) {
                fault(tree, "rule 4: " + tree);
            }
            return super.visitImport(tree, nothing);
        }

        @Override public Void visitClass(ClassTree tree, Void nothing) {
            classes++;
            Element element = trees.getElement(getCurrentPath());
            boolean isInside = element.getEnclosingElement().getKind() == ElementKind.CLASS;
            if (getCurrentPath().getParentPath().getLeaf().getKind() == Tree.Kind.NEW_CLASS
                || isInside && !tree.getModifiers().getFlags().contains(javax.lang.model.element.Modifier.STATIC)) {
                fault(tree, "rule 2: an inner class");
            }
            int fields = 0;
            for (Tree member : tree.getMembers()) {
                if (member instanceof VariableTree field
                    && !field.getModifiers().getFlags().contains(javax.lang.model.element.Modifier.STATIC)) {
                    fields++;
                }
                if (member instanceof BlockTree) {
                    fault(member, "rule 5: an initialiser block");
                }
            }
            if (fields > 20) {
                fault(tree, "rule 11: " + fields + " fields");
            }
            return super.visitClass(tree, nothing);
        }

        @Override public Void visitVariable(VariableTree tree, Void nothing) {
            var flags = tree.getModifiers().getFlags();
            if (flags.contains(javax.lang.model.element.Modifier.STATIC)) {
                boolean isConstant = ((javax.lang.model.element.VariableElement) trees.getElement(getCurrentPath()))
                    .getConstantValue() != null;
                boolean isWrittenOut = tree.getInitializer() != null
                    && tree.getInitializer().getKind() == Tree.Kind.NEW_ARRAY
                    && ((NewArrayTree) tree.getInitializer()).getInitializers() != null;
                if (!flags.contains(javax.lang.model.element.Modifier.FINAL) || !isConstant && !isWrittenOut) {
                    fault(tree, "rule 5: " + tree.getName());
                }
            }
            return super.visitVariable(tree, nothing);
        }

        @Override public Void visitMethod(MethodTree tree, Void nothing) {
            ExecutableElement element = (ExecutableElement) trees.getElement(getCurrentPath());
            String was = method;
            method = name(element);
            callsOf.putIfAbsent(method, new TreeSet<>());
            boolean isDeep = false;
            for (VariableTree parameter : tree.getParameters()) {
                isDeep |= parameter.getName().contentEquals("depth");
            }
            hasDepth.put(method, isDeep);
            if (tree.getParameters().size() > 7) {
                fault(tree, "rule 11: parameters of " + method);
            }
            long lines = line(tree, true) - line(tree, false) + 1;
            if (lines > 60) {
                fault(tree, "rule 11: " + lines + " lines of " + method);
            }
            boolean isPublic = tree.getModifiers().getFlags().contains(javax.lang.model.element.Modifier.PUBLIC);
            if (!isPublic && FACE_NAMES.contains(tree.getName().toString())) {
                fault(tree, "rule 1: the name of " + method);
            }
            super.visitMethod(tree, nothing);
            method = was;
            return null;
        }

        private static String name(ExecutableElement element) {
            return ((TypeElement) element.getEnclosingElement()).getQualifiedName() + "." + element;
        }

        @Override public Void visitMethodInvocation(MethodInvocationTree tree, Void nothing) {
            Element element = trees.getElement(new TreePath(getCurrentPath(), tree.getMethodSelect()));
            String called = name((ExecutableElement) element);
            if (!called.startsWith("CoinLand") && !LIBRARY.contains(called) && !called.equals("java.lang.Object.Object()")) {
                fault(tree, "rule 4: " + called);
            }
            callsOf.computeIfAbsent(method, m -> new TreeSet<>()).add(called);
            return super.visitMethodInvocation(tree, nothing);
        }

        @Override public Void visitNewClass(NewClassTree tree, Void nothing) {
            Element element = trees.getElement(getCurrentPath());
            if (!name((ExecutableElement) element).startsWith("CoinLand.")) {
                fault(tree, "rule 4: " + element);
            }
            callsOf.computeIfAbsent(method, m -> new TreeSet<>()).add(name((ExecutableElement) element));
            return super.visitNewClass(tree, nothing);
        }

        @Override public Void visitTypeCast(TypeCastTree tree, Void nothing) {
            if (!tree.getType().toString().equals("char")) {
                fault(tree, "rule 6: a cast to " + tree.getType());
            }
            return super.visitTypeCast(tree, nothing);
        }

        @Override public Void visitForLoop(ForLoopTree tree, Void nothing) {
            if (tree.getCondition() == null || tree.getUpdate().isEmpty()) {
                fault(tree, "rule 9: a loop without a bound or a step");
            }
            return super.visitForLoop(tree, nothing);
        }

        @Override public Void visitBinary(BinaryTree tree, Void nothing) {
            String type = String.valueOf(trees.getTypeMirror(getCurrentPath()));
            if (type.equals("java.lang.String")) {
                fault(tree, "rule 10: texts joined by +");
            }
            return super.visitBinary(tree, nothing);
        }
    }
}
