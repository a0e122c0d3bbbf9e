import com.sun.source.tree.*;
import com.sun.source.util.JavacTask;
import com.sun.source.util.TreePath;
import com.sun.source.util.TreePathScanner;
import com.sun.source.util.Trees;
import java.io.File;
import java.io.IOException;
import java.util.HashMap;
import java.util.HashSet;
import java.util.List;
import java.util.Map;
import java.util.Set;
import java.util.TreeMap;
import java.util.TreeSet;
import javax.lang.model.element.Element;
import javax.lang.model.element.ElementKind;
import javax.lang.model.element.ExecutableElement;
import javax.lang.model.element.Modifier;
import javax.lang.model.element.TypeElement;
import javax.lang.model.type.ArrayType;
import javax.lang.model.type.TypeKind;
import javax.lang.model.type.TypeMirror;
import javax.tools.JavaCompiler;
import javax.tools.StandardJavaFileManager;
import javax.tools.ToolProvider;

/**
 * Those rules of LANGUAGE.md that the source itself tells, drawn more narrowly where the class needs
 * less than they leave. The project's folder is the property "project", or else the working folder.
 */
public final class LanguageTest {
    private static final int MOST_LINES = 60;
    private static final int MOST_PARAMETERS = 7;
    private static final int MOST_CLASSES = 12;
    private static final int MOST_FIELDS = 20;
    private static final int DEEPEST = 8;

    private static final Set<String> LIBRARY = Set.of("java.util.Arrays.copyOf", "java.util.Arrays.copyOfRange",
            "java.util.Arrays.fill", "java.lang.System.arraycopy");
    private static final Set<String> NUMBER_CLASSES = Set.of("java.lang.Math", "java.lang.Long", "java.lang.Integer");
    private static final Set<String> EXCEPTIONS = Set.of("IllegalStateException", "IllegalArgumentException",
            "IndexOutOfBoundsException", "ArithmeticException", "UnsupportedOperationException",
            "NoSuchElementException", "RuntimeException");
    /** What the class does without, and the rule that refuses it or binds it to a test that the source can't tell. */
    private static final Map<Tree.Kind, Integer> REFUSED = Map.ofEntries(
            Map.entry(Tree.Kind.LAMBDA_EXPRESSION, 2), Map.entry(Tree.Kind.MEMBER_REFERENCE, 2),
            Map.entry(Tree.Kind.DOUBLE_LITERAL, 3), Map.entry(Tree.Kind.FLOAT_LITERAL, 3),
            Map.entry(Tree.Kind.TRY, 6), Map.entry(Tree.Kind.SYNCHRONIZED, 6), Map.entry(Tree.Kind.ASSERT, 6),
            Map.entry(Tree.Kind.TYPE_CAST, 6), Map.entry(Tree.Kind.INSTANCE_OF, 6),
            Map.entry(Tree.Kind.DIVIDE, 7), Map.entry(Tree.Kind.DIVIDE_ASSIGNMENT, 7),
            Map.entry(Tree.Kind.REMAINDER, 7), Map.entry(Tree.Kind.REMAINDER_ASSIGNMENT, 7),
            Map.entry(Tree.Kind.NULL_LITERAL, 7), Map.entry(Tree.Kind.WHILE_LOOP, 9),
            Map.entry(Tree.Kind.DO_WHILE_LOOP, 9));

    private static int wrong = 0;

    private static void refuse(int rule, String what) {
        wrong++;
        System.out.println("rule " + rule + ": " + what);
    }

    /** Looks at every node of the source once, and gathers who calls whom. */
    private static final class Reader extends TreePathScanner<Void, Void> {
        final Trees trees;
        final CompilationUnitTree unit;
        final Map<String, Set<String>> calls = new TreeMap<>();
        final Set<String> publicNames = new HashSet<>();
        final Set<String> otherNames = new TreeSet<>();
        int classes = 0;
        String method = "";

        Reader(Trees trees, CompilationUnitTree unit) {
            this.trees = trees;
            this.unit = unit;
        }

        private Element element() {
            return trees.getElement(getCurrentPath());
        }

        @Override
        public Void scan(Tree tree, Void none) {
            if (tree != null && REFUSED.containsKey(tree.getKind()) && !isNumberCast(tree)) {
                refuse(REFUSED.get(tree.getKind()), tree.getKind() + " at line " + line(tree));
            }
            return super.scan(tree, none);
        }

        private boolean isNumberCast(Tree tree) {
            return tree instanceof TypeCastTree cast && cast.getType() instanceof PrimitiveTypeTree;
        }

        private long line(Tree tree) {
            return unit.getLineMap().getLineNumber(trees.getSourcePositions().getStartPosition(unit, tree));
        }

        private long lastLine(Tree tree) {
            return unit.getLineMap().getLineNumber(trees.getSourcePositions().getEndPosition(unit, tree));
        }

        @Override
        public Void visitClass(ClassTree tree, Void none) {
            classes++;
            Set<Modifier> modifiers = tree.getModifiers().getFlags();
            boolean outer = getCurrentPath().getParentPath().getLeaf() instanceof CompilationUnitTree;
            if (outer != modifiers.contains(Modifier.PUBLIC) || outer == modifiers.contains(Modifier.STATIC)) {
                refuse(1, "class " + tree.getSimpleName() + " is " + modifiers);
            }
            int fields = 0;
            for (Tree member : tree.getMembers()) {
                if (member instanceof VariableTree field && !isStatic(field)) {
                    fields++;
                }
            }
            if (fields > MOST_FIELDS) {
                refuse(11, tree.getSimpleName() + " has " + fields + " fields");
            }
            return super.visitClass(tree, none);
        }

        private static boolean isStatic(VariableTree field) {
            return field.getModifiers().getFlags().contains(Modifier.STATIC);
        }

        @Override
        public Void visitVariable(VariableTree tree, Void none) {
            Element variable = element();
            if (!isPlain(variable.asType(), variable.getKind() == ElementKind.FIELD && isStatic(tree))) {
                refuse(3, tree.getName() + " is of " + variable.asType());
            }
            if (isStatic(tree) && !tree.getModifiers().getFlags().contains(Modifier.FINAL)) {
                refuse(5, tree.getName() + " is static and not final");
            }
            return super.visitVariable(tree, none);
        }

        /** Numbers, yes and no, rows of numbers and own classes; of static ones numbers alone. */
        private static boolean isPlain(TypeMirror type, boolean constant) {
            if (type instanceof ArrayType row) {
                return !constant && isNumber(row.getComponentType());
            }
            boolean own = !constant && type.toString().startsWith("ShapeRelator.");
            return isNumber(type) || own;
        }

        private static boolean isNumber(TypeMirror type) {
            return type.getKind() == TypeKind.INT || type.getKind() == TypeKind.LONG
                    || type.getKind() == TypeKind.BOOLEAN;
        }

        @Override
        public Void visitMethod(MethodTree tree, Void none) {
            method = element().getEnclosingElement().getSimpleName() + "." + tree.getName();
            calls.computeIfAbsent(method, key -> new TreeSet<>());
            // The compiler's own constructors stand in the tree too, but on no line of the file.
            if (tree.getBody() != null && lastLine(tree) - line(tree) + 1 > MOST_LINES) {
                refuse(11, method + " has " + (lastLine(tree) - line(tree) + 1) + " lines");
            }
            if (tree.getParameters().size() > MOST_PARAMETERS) {
                refuse(11, method + " takes " + tree.getParameters().size());
            }
            boolean open = tree.getModifiers().getFlags().contains(Modifier.PUBLIC);
            (open ? publicNames : otherNames).add(tree.getName().toString());
            super.visitMethod(tree, none);
            method = "";
            return null;
        }

        @Override
        public Void visitMethodInvocation(MethodInvocationTree tree, Void none) {
            note((ExecutableElement) element());
            return super.visitMethodInvocation(tree, none);
        }

        @Override
        public Void visitNewClass(NewClassTree tree, Void none) {
            if (tree.getClassBody() != null) {
                refuse(2, "a class without a name at line " + line(tree));
            }
            if (!EXCEPTIONS.contains(tree.getIdentifier().toString())) {
                note((ExecutableElement) element());
            }
            return super.visitNewClass(tree, none);
        }

        private void note(ExecutableElement called) {
            TypeElement owner = (TypeElement) called.getEnclosingElement();
            String name = owner.getQualifiedName() + "." + called.getSimpleName();
            boolean ofNumbers = NUMBER_CLASSES.contains(owner.getQualifiedName().toString())
                    && called.getModifiers().contains(Modifier.STATIC) && isNumber(called.getReturnType())
                    && !name.endsWith("Exact");
            boolean superCall = name.equals("java.lang.Object.<init>");
            boolean own = name.startsWith("ShapeRelator.");
            if (!own && !superCall && !ofNumbers && !LIBRARY.contains(name)) {
                refuse(4, name);
            }
            if (!superCall && !method.isEmpty()) {
                calls.get(method).add(owner.getSimpleName() + "." + called.getSimpleName());
            }
        }

        @Override
        public Void visitThrow(ThrowTree tree, Void none) {
            boolean plain = tree.getExpression() instanceof NewClassTree made
                    && EXCEPTIONS.contains(made.getIdentifier().toString()) && isWritten(made.getArguments());
            if (!plain || method.endsWith("<init>")) {
                refuse(6, "throw at line " + line(tree));
            }
            return super.visitThrow(tree, none);
        }

        private static boolean isWritten(List<? extends ExpressionTree> arguments) {
            return arguments.isEmpty()
                    || arguments.size() == 1 && arguments.get(0).getKind() == Tree.Kind.STRING_LITERAL;
        }

        @Override
        public Void visitBlock(BlockTree tree, Void none) {
            if (tree.isStatic()) {
                refuse(5, "a static block at line " + line(tree));
            }
            return super.visitBlock(tree, none);
        }

        @Override
        public Void visitForLoop(ForLoopTree tree, Void none) {
            boolean counted = tree.getCondition() instanceof BinaryTree && tree.getUpdate().size() == 1;
            if (!counted) {
                refuse(9, "a loop without a counter at line " + line(tree));
            }
            return super.visitForLoop(tree, none);
        }
    }

    /** How many calls stand open at once, from this one to the library's; recursion tells far too many. */
    private static int depth(Map<String, Set<String>> calls, String method, Map<String, Integer> known, int above) {
        if (above > 100) {
            return above;
        }
        Integer found = known.get(method);
        if (found == null) {
            int deepest = 0;
            for (String called : calls.getOrDefault(method, Set.of())) {
                deepest = Math.max(deepest, depth(calls, called, known, above + 1));
            }
            found = deepest + 1;
            known.put(method, found);
        }
        return found;
    }

    private static void read(File source) throws IOException {
        JavaCompiler compiler = ToolProvider.getSystemJavaCompiler();
        try (StandardJavaFileManager files = compiler.getStandardFileManager(null, null, null)) {
            JavacTask task = (JavacTask) compiler.getTask(null, files, null, List.of("--release", "17"), null,
                    files.getJavaFileObjects(source));
            CompilationUnitTree unit = task.parse().iterator().next();
            task.analyze();
            check(new Reader(Trees.instance(task), unit));
        }
    }

    private static void check(Reader reader) {
        CompilationUnitTree unit = reader.unit;
        if (unit.getPackageName() != null || unit.getTypeDecls().size() != 1) {
            refuse(1, "not one class without a package");
        }
        for (ImportTree library : unit.getImports()) {
            if (!library.getQualifiedIdentifier().toString().equals("java.util.Arrays")) {
                refuse(4, library.toString());
            }
        }
        reader.scan(new TreePath(unit), null);
        if (reader.classes > MOST_CLASSES) {
            refuse(11, reader.classes + " classes");
        }
        reader.publicNames.remove("<init>");
        reader.otherNames.retainAll(reader.publicNames);
        if (!reader.otherNames.isEmpty()) {
            refuse(1, "names of public methods borne by others: " + reader.otherNames);
        }
        Map<String, Integer> known = new HashMap<>();
        for (String method : reader.calls.keySet()) {
            int deep = depth(reader.calls, method, known, 0);
            if (deep > DEEPEST) {
                refuse(11, method + " goes " + deep + " calls deep");
            }
        }
    }

    public static void main(String[] args) throws IOException {
        read(new File(System.getProperty("project", "."), "src/main/java/ShapeRelator.java"));
        System.out.println(wrong == 0 ? "the class keeps to the language" : wrong + " rules are broken");
        if (wrong != 0) {
            System.exit(1);
        }
    }
}
