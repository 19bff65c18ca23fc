import com.sun.source.tree.BinaryTree;
import com.sun.source.tree.ClassTree;
import com.sun.source.tree.CompilationUnitTree;
import com.sun.source.tree.ExpressionTree;
import com.sun.source.tree.ForLoopTree;
import com.sun.source.tree.LiteralTree;
import com.sun.source.tree.MethodInvocationTree;
import com.sun.source.tree.MethodTree;
import com.sun.source.tree.ModifiersTree;
import com.sun.source.tree.NewArrayTree;
import com.sun.source.tree.NewClassTree;
import com.sun.source.tree.ThrowTree;
import com.sun.source.tree.Tree;
import com.sun.source.tree.VariableTree;
import com.sun.source.util.JavacTask;
import com.sun.source.util.TreePathScanner;
import com.sun.source.util.Trees;
import java.io.IOException;
import java.nio.file.Files;
import java.nio.file.Path;
import java.util.Collection;
import java.util.EnumSet;
import java.util.HashSet;
import java.util.List;
import java.util.Map;
import java.util.Set;
import java.util.TreeMap;
import java.util.TreeSet;
import javax.lang.model.element.Element;
import javax.lang.model.element.ExecutableElement;
import javax.lang.model.element.Modifier;
import javax.lang.model.type.TypeKind;
import javax.lang.model.type.TypeMirror;
import javax.tools.JavaCompiler;
import javax.tools.JavaFileObject;
import javax.tools.StandardJavaFileManager;
import javax.tools.ToolProvider;

/**
 * The class keeps to ../shared/LANGUAGE.md, as far as its text can tell: the kinds of statements, the library, types,
 * static fields, exceptions, lengths and depths. What the class does without (lists, texts that are built, lambdas, try
 * and so on) is refused here even where a rule would allow it.
 */
public final class LanguageTest {
    private static final Path SOURCE = Path.of("src/main/java/AcousticCamera.java");
    private static final int MOST_CLASSES = 12;
    private static final int MOST_FIELDS = 20;
    private static final int MOST_LINES = 60;
    private static final int MOST_PARAMETERS = 7;
    private static final int MOST_DEPTH = 8;

    private static final Set<String> LIBRARY = Set.of("java.lang.String.length", "java.lang.String.charAt",
            "java.lang.Math.max", "java.lang.Math.min", "java.lang.Math.abs", "java.lang.Math.floorDiv",
            "java.lang.Math.floorMod", "java.lang.Long.compare", "java.lang.System.arraycopy", "java.util.Arrays.fill");
    private static final Set<String> EXCEPTIONS = Set.of("java.lang.IllegalStateException",
            "java.lang.IllegalArgumentException", "java.lang.IndexOutOfBoundsException");
    private static final Set<Tree.Kind> KINDS = EnumSet.of(Tree.Kind.COMPILATION_UNIT, Tree.Kind.IMPORT,
            Tree.Kind.CLASS, Tree.Kind.MODIFIERS, Tree.Kind.VARIABLE, Tree.Kind.METHOD, Tree.Kind.BLOCK,
            Tree.Kind.PRIMITIVE_TYPE, Tree.Kind.ARRAY_TYPE, Tree.Kind.IDENTIFIER, Tree.Kind.MEMBER_SELECT,
            Tree.Kind.METHOD_INVOCATION, Tree.Kind.NEW_CLASS, Tree.Kind.NEW_ARRAY, Tree.Kind.ARRAY_ACCESS,
            Tree.Kind.TYPE_CAST, Tree.Kind.PARENTHESIZED, Tree.Kind.CONDITIONAL_EXPRESSION,
            Tree.Kind.EXPRESSION_STATEMENT, Tree.Kind.IF, Tree.Kind.FOR_LOOP, Tree.Kind.SWITCH, Tree.Kind.CASE,
            Tree.Kind.RETURN, Tree.Kind.THROW, Tree.Kind.ASSIGNMENT, Tree.Kind.INT_LITERAL, Tree.Kind.LONG_LITERAL,
            Tree.Kind.FLOAT_LITERAL, Tree.Kind.CHAR_LITERAL, Tree.Kind.STRING_LITERAL, Tree.Kind.BOOLEAN_LITERAL,
            Tree.Kind.PLUS, Tree.Kind.MINUS, Tree.Kind.MULTIPLY, Tree.Kind.DIVIDE, Tree.Kind.REMAINDER, Tree.Kind.AND,
            Tree.Kind.OR, Tree.Kind.LEFT_SHIFT, Tree.Kind.RIGHT_SHIFT, Tree.Kind.UNSIGNED_RIGHT_SHIFT,
            Tree.Kind.UNARY_MINUS, Tree.Kind.LOGICAL_COMPLEMENT, Tree.Kind.CONDITIONAL_AND, Tree.Kind.CONDITIONAL_OR,
            Tree.Kind.EQUAL_TO, Tree.Kind.NOT_EQUAL_TO, Tree.Kind.LESS_THAN, Tree.Kind.LESS_THAN_EQUAL,
            Tree.Kind.GREATER_THAN, Tree.Kind.GREATER_THAN_EQUAL, Tree.Kind.POSTFIX_INCREMENT,
            Tree.Kind.POSTFIX_DECREMENT, Tree.Kind.PLUS_ASSIGNMENT, Tree.Kind.MINUS_ASSIGNMENT,
            Tree.Kind.MULTIPLY_ASSIGNMENT, Tree.Kind.OR_ASSIGNMENT, Tree.Kind.RIGHT_SHIFT_ASSIGNMENT);

    public static void main(String[] args) throws IOException {
        JavaCompiler compiler = ToolProvider.getSystemJavaCompiler();
        StandardJavaFileManager files = compiler.getStandardFileManager(null, null, null);
        Iterable<? extends JavaFileObject> sources = files.getJavaFileObjects(SOURCE);
        JavacTask task = (JavacTask) compiler.getTask(null, files, null, null, null, sources);
        CompilationUnitTree unit = task.parse().iterator().next();
        task.analyze();
        Check.due("package", String.valueOf(unit.getPackage()), "null");
        Check.due("imports", unit.getImports().toString().strip(), "import java.util.Arrays;");
        Check.due("classes of the file", unit.getTypeDecls().size(), 1);
        Reader reader = new Reader(Trees.instance(task), unit);
        reader.scan(unit, null);
        most("classes", reader.classes, MOST_CLASSES);
        for (String method : reader.calls.keySet()) {
            most("calls below " + method, depth(method, reader.calls, List.of()), MOST_DEPTH);
        }
        for (char sign : Files.readString(SOURCE).toCharArray()) {
            if (sign > 126 || (sign < 32 && sign != '\n')) {
                Check.due("a sign", (int) sign, "1 to 127");
            }
        }
        Check.end();
    }

    private static void most(String what, int got, int most) {
        Check.due(what + " " + got + ", at most " + most, got <= most, true);
    }

    /** How many calls stand open at once at the most, this one counted; a recursion would go beyond any bound. */
    private static int depth(String method, Map<String, Set<String>> calls, Collection<String> open) {
        if (open.contains(method)) {
            return 1000;
        }
        Collection<String> further = new HashSet<>(open);
        further.add(method);
        int deepest = 0;
        for (String next : calls.getOrDefault(method, Set.of())) {
            deepest = Math.max(deepest, depth(next, calls, further));
        }
        return deepest + 1;
    }

    private static final class Reader extends TreePathScanner<Void, Void> {
        private final Trees trees;
        private final CompilationUnitTree unit;
        /** By method of the file, the methods of the file that it calls; field initialisers count as constructors. */
        final Map<String, Set<String>> calls = new TreeMap<>();
        int classes;
        private String className = "";
        private String method = "";

        Reader(Trees trees, CompilationUnitTree unit) {
            this.trees = trees;
            this.unit = unit;
        }

        @Override
        public Void scan(Tree tree, Void nothing) {
            if (tree != null && !KINDS.contains(tree.getKind()) && !isSuperCall(tree)) {
                Check.due(place(tree), tree.getKind(), "a kind that the class may use");
            }
            return super.scan(tree, nothing);
        }

        /** The compiler's own call in a constructor. */
        private boolean isSuperCall(Tree tree) {
            return trees.getSourcePositions().getEndPosition(unit, tree) < 0;
        }

        private String place(Tree tree) {
            long start = trees.getSourcePositions().getStartPosition(unit, tree);
            return "line " + unit.getLineMap().getLineNumber(Math.max(start, 0));
        }

        private int lines(Tree tree) {
            long start = trees.getSourcePositions().getStartPosition(unit, tree);
            long end = trees.getSourcePositions().getEndPosition(unit, tree);
            return end < 0 ? 0
                    : (int) (unit.getLineMap().getLineNumber(end) - unit.getLineMap().getLineNumber(start)) + 1;
        }

        @Override
        public Void visitClass(ClassTree tree, Void nothing) {
            String outer = className;
            className = tree.getSimpleName().toString();
            classes++;
            Check.due(className + " extends or implements", tree.getExtendsClause() != null
                    || !tree.getImplementsClause().isEmpty() || !tree.getTypeParameters().isEmpty(), false);
            Set<Modifier> due = outer.isEmpty() ? EnumSet.of(Modifier.PUBLIC, Modifier.FINAL)
                    : EnumSet.of(Modifier.PRIVATE, Modifier.STATIC, Modifier.FINAL);
            Check.due(className + " is", tree.getModifiers().getFlags(), due);
            int fields = 0;
            for (Tree member : tree.getMembers()) {
                boolean isField = member instanceof VariableTree;
                fields += isField && !isStatic(((VariableTree) member).getModifiers()) ? 1 : 0;
                Check.due(place(member) + ", a bare block", member.getKind() == Tree.Kind.BLOCK, false);
            }
            most("fields of " + className, fields, MOST_FIELDS);
            super.visitClass(tree, nothing);
            className = outer;
            return null;
        }

        private static boolean isStatic(ModifiersTree modifiers) {
            return modifiers.getFlags().contains(Modifier.STATIC);
        }

        @Override
        public Void visitVariable(VariableTree tree, Void nothing) {
            TypeMirror type = trees.getTypeMirror(getCurrentPath());
            Check.due(place(tree) + ", " + type + " may be used", isAllowed(type), true);
            if (isStatic(tree.getModifiers())) {
                Check.due(place(tree) + " is final", tree.getModifiers().getFlags().contains(Modifier.FINAL), true);
                Check.due(place(tree) + ", " + type + " may be static",
                        Set.of("int", "long", "boolean", "char", "java.lang.String").contains(type.toString())
                                && tree.getInitializer() instanceof LiteralTree
                                || tree.toString().endsWith("NONE = -1"), true);
            }
            return super.visitVariable(tree, nothing);
        }

        /** Numbers and booleans, the class's own classes, texts; arrays of these, of two dimensions of numbers only. */
        private static boolean isAllowed(TypeMirror type) {
            String name = type.toString();
            String element = name.replace("[]", "");
            boolean isNumber = Set.of("int", "long", "float").contains(element);
            boolean isOwn = element.startsWith("AcousticCamera.");
            int dimensions = (name.length() - element.length()) / 2;
            return dimensions == 0 && (isNumber || isOwn || Set.of("boolean", "java.lang.String").contains(name))
                    || dimensions == 1 && (isNumber || isOwn || element.equals("boolean"))
                    || dimensions == 2 && isNumber;
        }

        @Override
        public Void visitMethod(MethodTree tree, Void nothing) {
            String before = method;
            ExecutableElement element = (ExecutableElement) trees.getElement(getCurrentPath());
            method = nameOf(element);
            calls.putIfAbsent(method, new TreeSet<>());
            most("parameters of " + method, tree.getParameters().size(), MOST_PARAMETERS);
            most("lines of " + method, lines(tree), MOST_LINES);
            boolean isFace = before.isEmpty() && element.getModifiers().contains(Modifier.PUBLIC);
            Check.due(method + " tells exceptions", !tree.getThrows().isEmpty() && !isFace, false);
            super.visitMethod(tree, nothing);
            method = before;
            return null;
        }

        @Override
        public Void visitMethodInvocation(MethodInvocationTree tree, Void nothing) {
            Element element = trees.getElement(getCurrentPath());
            if (!isSuperCall(tree) && !isOwn(element)) {
                String name = nameOf(element);
                Check.due(place(tree) + ", " + name + " may be used", LIBRARY.contains(name), true);
            } else if (isOwn(element)) {
                calls.computeIfAbsent(caller(), key -> new TreeSet<>()).add(nameOf(element));
            }
            return super.visitMethodInvocation(tree, nothing);
        }

        @Override
        public Void visitNewClass(NewClassTree tree, Void nothing) {
            Element element = trees.getElement(getCurrentPath());
            String type = element.getEnclosingElement().toString();
            boolean isThrown = getCurrentPath().getParentPath().getLeaf() instanceof ThrowTree;
            Check.due(place(tree) + ", new " + type + " may stand here",
                    isThrown ? EXCEPTIONS.contains(type) : isOwn(element) && isOnce(), true);
            Check.due(place(tree) + ", a class without a name", tree.getClassBody() == null, true);
            if (isOwn(element)) {
                calls.computeIfAbsent(caller(), key -> new TreeSet<>()).add(nameOf(element));
            }
            return super.visitNewClass(tree, nothing);
        }

        @Override
        public Void visitThrow(ThrowTree tree, Void nothing) {
            Check.due(place(tree) + ", throw", tree.getExpression() instanceof NewClassTree, true);
            Check.due(place(tree) + ", a throw in a constructor", method.endsWith("<init>"), false);
            return super.visitThrow(tree, nothing);
        }

        @Override
        public Void visitNewArray(NewArrayTree tree, Void nothing) {
            Check.due(place(tree) + ", an array is made once", isOnce() || method.endsWith(".Wides.widenTo"), true);
            return super.visitNewArray(tree, nothing);
        }

        private boolean isOnce() {
            return method.isEmpty() || method.endsWith("<init>");
        }

        @Override
        public Void visitForLoop(ForLoopTree tree, Void nothing) {
            Check.due(place(tree) + ", a loop with an end", tree.getCondition() != null && tree.getUpdate().size() == 1
                    && tree.getInitializer().size() == 1, true);
            return super.visitForLoop(tree, nothing);
        }

        /** A divisor is a number written out, or its test stands just before it. */
        @Override
        public Void visitBinary(BinaryTree tree, Void nothing) {
            boolean divides = tree.getKind() == Tree.Kind.DIVIDE || tree.getKind() == Tree.Kind.REMAINDER;
            TypeKind type = trees.getTypeMirror(getCurrentPath()).getKind();
            ExpressionTree right = tree.getRightOperand();
            if (divides && type != TypeKind.FLOAT) {
                Check.due(place(tree) + ", " + tree + " has a safe divisor", right instanceof LiteralTree
                        || right.toString().equals("MOST_CHANGES")
                        || getCurrentPath().getParentPath().getLeaf().toString().startsWith(right + " == 0"), true);
            }
            Check.due(place(tree) + ", texts are joined", type == TypeKind.DECLARED, false);
            return super.visitBinary(tree, nothing);
        }

        private String caller() {
            return method.isEmpty() ? "AcousticCamera." + className + ".<init>" : method;
        }

        private static boolean isOwn(Element element) {
            return element.getEnclosingElement().toString().startsWith("AcousticCamera");
        }

        private static String nameOf(Element element) {
            return element.getEnclosingElement() + "." + element.getSimpleName();
        }
    }
}
