import com.sun.source.tree.ArrayAccessTree;
import com.sun.source.tree.AssertTree;
import com.sun.source.tree.BinaryTree;
import com.sun.source.tree.ClassTree;
import com.sun.source.tree.CompilationUnitTree;
import com.sun.source.tree.ImportTree;
import com.sun.source.tree.LambdaExpressionTree;
import com.sun.source.tree.LiteralTree;
import com.sun.source.tree.MemberReferenceTree;
import com.sun.source.tree.MethodInvocationTree;
import com.sun.source.tree.MethodTree;
import com.sun.source.tree.NewArrayTree;
import com.sun.source.tree.NewClassTree;
import com.sun.source.tree.SynchronizedTree;
import com.sun.source.tree.ThrowTree;
import com.sun.source.tree.Tree;
import com.sun.source.tree.TryTree;
import com.sun.source.tree.TypeCastTree;
import com.sun.source.tree.VariableTree;
import com.sun.source.util.JavacTask;
import com.sun.source.util.TreePath;
import com.sun.source.util.TreePathScanner;
import com.sun.source.util.Trees;
import java.nio.file.Path;
import java.util.HashMap;
import java.util.HashSet;
import java.util.List;
import java.util.Map;
import java.util.Set;
import java.util.TreeSet;
import javax.lang.model.element.Element;
import javax.lang.model.element.ElementKind;
import javax.lang.model.element.ExecutableElement;
import javax.lang.model.element.Modifier;
import javax.tools.JavaCompiler;
import javax.tools.StandardJavaFileManager;
import javax.tools.ToolProvider;

/** The face of the class, and what of the language's rules a walk through its source can see. */
public final class LanguageTest {
    private static final Path SOURCE = Path.of("src/main/java/CaptionLoom.java");
    private static final Set<String> LIBRARY = Set.of("java.lang.Math.min(int,int)", "java.lang.Math.max(int,int)",
        "java.lang.String.length()", "java.lang.String.charAt(int)", "java.lang.Object.Object()",
        "java.util.Arrays.fill(int[],int)", "java.util.Arrays.fill(long[],long)",
        "java.lang.System.arraycopy(java.lang.Object,int,java.lang.Object,int,int)");
    private static final Set<String> THROWN = Set.of("IllegalStateException", "IllegalArgumentException",
        "IndexOutOfBoundsException");
    private static final String STATE = "throws IllegalStateException";
    private static final String ARGUMENT = "throws IllegalArgumentException";
    private static final String INDEX = "throws IndexOutOfBoundsException";
    private static final String BOTH = "throws IndexOutOfBoundsException,IllegalArgumentException";
    private static final Set<String> FACE = new TreeSet<>(List.of(
        "CaptionLoom()", "int append(int,int,int,int,int) " + STATE, "int truncate(int) " + ARGUMENT, "int load()",
        "int play()", "int errorCode()", "int errorPosition()", "int count(int) " + ARGUMENT,
        "int caption(int,int) " + BOTH, "int letter(int,int,int) " + BOTH, "int cell(int,int) " + INDEX,
        "int design(int,int) " + INDEX, "int colour(int,int) " + BOTH, "int mistakes(int) " + ARGUMENT,
        "boolean fits()", "boolean isAlike(int) " + INDEX, "int joins(int) " + INDEX, "int slits(int) " + ARGUMENT,
        "int longestSlit()", "int account(int) " + ARGUMENT, "int lasts()", "int minutes(int) " + ARGUMENT,
        "int wouldErr(int) " + INDEX, "int place(int,int) " + ARGUMENT, "float share(int) " + INDEX,
        "double meanJoins()", "int pass(int,int,int) " + BOTH, "int beat()", "int weave(int,boolean) " + ARGUMENT,
        "int unpick(int) " + ARGUMENT, "int look()", "int add(int,int,int,int) " + ARGUMENT,
        "int drop(int) " + INDEX, "int move(int,int,int) " + INDEX, "int setStock(int,int) " + BOTH,
        "int setDelay(int) " + ARGUMENT, "int writeRow(int,boolean) " + INDEX, "int writeCaption(int) " + INDEX,
        "int output(int)", "int undo()", "void save(int) " + ARGUMENT,
        "void restore(int) throws IllegalArgumentException,IllegalStateException"));

    private static int wrong;

    private LanguageTest() {
    }

    private static void check(boolean isRight, String what) {
        if (!isRight) {
            wrong++;
            System.out.println(what);
        }
    }

    public static void main(String[] args) throws Exception {
        JavaCompiler compiler = ToolProvider.getSystemJavaCompiler();
        try (StandardJavaFileManager files = compiler.getStandardFileManager(null, null, null)) {
            JavacTask task = (JavacTask) compiler.getTask(null, files, null, List.of("-proc:none"), null,
                files.getJavaFileObjects(SOURCE));
            CompilationUnitTree unit = task.parse().iterator().next();
            task.analyze();
            Walk walk = new Walk(unit, Trees.instance(task));
            walk.scan(unit, null);
            walk.end();
        }
        System.out.println(wrong == 0 ? "the language is kept to" : wrong + " things against the language");
        if (wrong != 0) {
            System.exit(1);
        }
    }

    private static final class Walk extends TreePathScanner<Void, Void> {
        private final CompilationUnitTree unit;
        private final Trees trees;
        private final Set<String> face = new TreeSet<>();
        private final Set<String> publicNames = new HashSet<>();
        private final Set<String> otherNames = new HashSet<>();
        private final Map<Element, Set<Element>> calls = new HashMap<>();
        private final Map<Element, Integer> depths = new HashMap<>();
        private int classes;

        Walk(CompilationUnitTree unit, Trees trees) {
            this.unit = unit;
            this.trees = trees;
        }

        private long line(Tree tree, boolean isEnd) {
            long at = isEnd ? trees.getSourcePositions().getEndPosition(unit, tree)
                : trees.getSourcePositions().getStartPosition(unit, tree);
            return unit.getLineMap().getLineNumber(at);
        }

        private String where(Tree tree) {
            return "line " + line(tree, false) + ": ";
        }

        private MethodTree method() {
            for (TreePath p = getCurrentPath(); p != null; p = p.getParentPath()) {
                if (p.getLeaf() instanceof MethodTree m) {
                    return m;
                }
            }
            return null;
        }

        private boolean isInConstructor() {
            return method() != null && method().getName().contentEquals("<init>");
        }

        private boolean isOuter(Element element) {
            return element.getEnclosingElement().getSimpleName().contentEquals("CaptionLoom");
        }

        @Override
        public Void visitImport(ImportTree tree, Void v) {
            check(tree.getQualifiedIdentifier().toString().equals("java.util.Arrays"), where(tree) + "import");
            return super.visitImport(tree, v);
        }

        @Override
        public Void visitClass(ClassTree tree, Void v) {
            classes++;
            Set<Modifier> modifiers = tree.getModifiers().getFlags();
            boolean isOuter = tree.getSimpleName().contentEquals("CaptionLoom");
            check(modifiers.contains(Modifier.FINAL) && modifiers.contains(isOuter ? Modifier.PUBLIC : Modifier.STATIC),
                where(tree) + "class");
            long fields = tree.getMembers().stream().filter(m -> m instanceof VariableTree f
                && !f.getModifiers().getFlags().contains(Modifier.STATIC)).count();
            check(fields <= 20, where(tree) + fields + " fields");
            return super.visitClass(tree, v);
        }

        @Override
        public Void visitVariable(VariableTree tree, Void v) {
            Element element = trees.getElement(getCurrentPath());
            if (element.getKind() == ElementKind.FIELD) {
                Set<Modifier> modifiers = element.getModifiers();
                check(!modifiers.contains(Modifier.STATIC) || modifiers.contains(Modifier.FINAL),
                    where(tree) + "static, not final");
                boolean isConstant = tree.getName().contentEquals("NONE");
                check(!isOuter(element) || isConstant || modifiers.contains(Modifier.PRIVATE),
                    where(tree) + "a field that is seen");
            }
            return super.visitVariable(tree, v);
        }

        @Override
        public Void visitMethod(MethodTree tree, Void v) {
            ExecutableElement element = (ExecutableElement) trees.getElement(getCurrentPath());
            calls.computeIfAbsent(element, e -> new HashSet<>());
            check(line(tree, true) - line(tree, false) < 60, where(tree) + "a long method");
            check(tree.getParameters().size() <= 7, where(tree) + "many parameters");
            if (element.getModifiers().contains(Modifier.PUBLIC)) {
                face.add(told(element));
                publicNames.add(tree.getName().toString());
                check(isOuter(element), where(tree) + "public in a class inside");
            } else {
                otherNames.add(tree.getName().toString());
                check(!isOuter(element) || element.getModifiers().contains(Modifier.PRIVATE),
                    where(tree) + "a method that is seen");
            }
            return super.visitMethod(tree, v);
        }

        private static String told(ExecutableElement element) {
            StringBuilder thrown = new StringBuilder();
            for (Object type : element.getThrownTypes()) {
                thrown.append(thrown.isEmpty() ? " throws " : ",").append(type.toString().replace("java.lang.", ""));
            }
            boolean isConstructor = element.getKind() == ElementKind.CONSTRUCTOR;
            return (isConstructor ? "" : element.getReturnType() + " ") + element + thrown;
        }

        @Override
        public Void visitMethodInvocation(MethodInvocationTree tree, Void v) {
            Element called = trees.getElement(getCurrentPath());
            Element owner = called.getEnclosingElement();
            if (owner.toString().startsWith("java.")) {
                check(LIBRARY.contains(owner + "." + called)
                    || LIBRARY.contains(owner + "." + owner.getSimpleName() + called.toString().replace("<init>", "")),
                    where(tree) + "library: " + owner + "." + called);
            } else if (method() != null) {
                MethodTree m = method();
                calls.computeIfAbsent(trees.getElement(trees.getPath(unit, m)), e -> new HashSet<>()).add(called);
            }
            return super.visitMethodInvocation(tree, v);
        }

        /** What a call makes stays in the room: objects and arrays are for constructors and fields. */
        @Override
        public Void visitNewArray(NewArrayTree tree, Void v) {
            check(method() == null || isInConstructor(), where(tree) + "a new array");
            return super.visitNewArray(tree, v);
        }

        @Override
        public Void visitNewClass(NewClassTree tree, Void v) {
            boolean isThrown = getCurrentPath().getParentPath().getLeaf() instanceof ThrowTree;
            check(isThrown || method() == null || isInConstructor(), where(tree) + "a new object");
            check(tree.getClassBody() == null, where(tree) + "an anonymous class");
            return super.visitNewClass(tree, v);
        }

        @Override
        public Void visitThrow(ThrowTree tree, Void v) {
            check(!isInConstructor(), where(tree) + "throw in a constructor");
            check(tree.getExpression() instanceof NewClassTree thrown
                && THROWN.contains(thrown.getIdentifier().toString())
                && thrown.getArguments().stream().allMatch(a -> a instanceof LiteralTree),
                where(tree) + "throw of something else than a new exception with a written text");
            return super.visitThrow(tree, v);
        }

        /** The machine would throw for an index that is off: its method has to look at the length of this array. */
        @Override
        public Void visitArrayAccess(ArrayAccessTree tree, Void v) {
            String length = tree.getExpression() + ".length";
            String body = method() == null ? "" : method().getBody().toString();
            check(body.contains("< " + length) || body.contains(">= " + length),
                where(tree) + "an index that is not looked at");
            return super.visitArrayAccess(tree, v);
        }

        @Override
        public Void visitTypeCast(TypeCastTree tree, Void v) {
            check(tree.getType().toString().matches("int|float|double"), where(tree) + "cast");
            return super.visitTypeCast(tree, v);
        }

        @Override
        public Void visitLiteral(LiteralTree tree, Void v) {
            check(!(tree.getValue() instanceof String text) || text.chars().allMatch(c -> c >= 1 && c <= 127),
                where(tree) + "a sign that may not be written");
            return super.visitLiteral(tree, v);
        }

        @Override
        public Void visitBinary(BinaryTree tree, Void v) {
            if (tree.getKind() == Tree.Kind.DIVIDE || tree.getKind() == Tree.Kind.REMAINDER) {
                String divisor = tree.getRightOperand().toString();
                check(divisor.matches("2|CELLS_A_WORD|GLYPH_WIDTH|\\(float\\)all|\\(double\\)now.finished"),
                    where(tree) + "divides by " + divisor);
            }
            check(!trees.getTypeMirror(getCurrentPath()).toString().endsWith("String"), where(tree) + "texts joined by +");
            return super.visitBinary(tree, v);
        }

        @Override
        public Void visitTry(TryTree tree, Void v) {
            check(false, where(tree) + "try");
            return null;
        }

        @Override
        public Void visitLambdaExpression(LambdaExpressionTree tree, Void v) {
            check(false, where(tree) + "lambda");
            return null;
        }

        @Override
        public Void visitMemberReference(MemberReferenceTree tree, Void v) {
            check(false, where(tree) + "method reference");
            return null;
        }

        @Override
        public Void visitAssert(AssertTree tree, Void v) {
            check(false, where(tree) + "assert");
            return null;
        }

        @Override
        public Void visitSynchronized(SynchronizedTree tree, Void v) {
            check(false, where(tree) + "synchronized");
            return null;
        }

        private int depth(Element method, Set<Element> open) {
            if (!open.add(method)) {
                check(false, method + " calls itself");
                return 0;
            }
            Integer known = depths.get(method);
            if (known == null) {
                known = 1;
                for (Element called : calls.getOrDefault(method, Set.of())) {
                    known = Math.max(known, 1 + depth(called, open));
                }
                depths.put(method, known);
            }
            open.remove(method);
            return known;
        }

        void end() {
            check(face.equals(FACE), "the face is " + face);
            check(CaptionLoom.NONE == -1, "NONE");
            check(classes <= 12, classes + " classes");
            publicNames.retainAll(otherNames);
            publicNames.remove("<init>");
            check(publicNames.isEmpty(), "private methods named as public ones: " + publicNames);
            for (Element method : Set.copyOf(calls.keySet())) {
                int depth = depth(method, new HashSet<>());
                check(depth <= 8, method + " goes " + depth + " calls deep");
            }
        }
    }
}
