import com.sun.source.tree.BinaryTree;
import com.sun.source.tree.ClassTree;
import com.sun.source.tree.CompilationUnitTree;
import com.sun.source.tree.CompoundAssignmentTree;
import com.sun.source.tree.DoWhileLoopTree;
import com.sun.source.tree.ExpressionTree;
import com.sun.source.tree.ForLoopTree;
import com.sun.source.tree.ImportTree;
import com.sun.source.tree.MethodInvocationTree;
import com.sun.source.tree.MethodTree;
import com.sun.source.tree.NewClassTree;
import com.sun.source.tree.ThrowTree;
import com.sun.source.tree.Tree;
import com.sun.source.tree.TypeCastTree;
import com.sun.source.tree.VariableTree;
import com.sun.source.tree.WhileLoopTree;
import com.sun.source.util.JavacTask;
import com.sun.source.util.SourcePositions;
import com.sun.source.util.TreePath;
import com.sun.source.util.TreePathScanner;
import com.sun.source.util.Trees;
import java.nio.file.Files;
import java.nio.file.Path;
import java.util.EnumSet;
import java.util.HashMap;
import java.util.HashSet;
import java.util.List;
import java.util.Map;
import java.util.Set;
import java.util.TreeSet;
import java.util.regex.Pattern;
import javax.lang.model.element.Element;
import javax.lang.model.element.ElementKind;
import javax.lang.model.element.ExecutableElement;
import javax.lang.model.element.Modifier;
import javax.lang.model.element.TypeElement;
import javax.lang.model.type.ArrayType;
import javax.lang.model.type.DeclaredType;
import javax.lang.model.type.TypeKind;
import javax.lang.model.type.TypeMirror;
import javax.tools.JavaCompiler;
import javax.tools.StandardJavaFileManager;
import javax.tools.ToolProvider;

/** The rules of LANGUAGE.md that can be told from the source, read as the compiler reads it. */
public final class LanguageTest {
    private static final Check CHECK = new Check();
    private static final String SOURCE = "src/main/java/Coasterland.java";
    private static final int MOST_PARAMETERS = 7;
    private static final int MOST_LINES = 60;
    private static final int MOST_CLASSES = 12;
    private static final int MOST_FIELDS = 20;
    private static final int DEEPEST_CALL = 8;
    private static final int GREATEST_SIGN = 126;

    /** What the class needs of rule 4; anything else has to be looked up there before it is put here. */
    private static final Set<String> LIBRARY =
            Set.of("Math.max(int,int)", "Math.min(int,int)", "Integer.bitCount(int)");
    private static final Set<String> EXCEPTIONS = Set.of("IllegalStateException", "IllegalArgumentException",
            "IndexOutOfBoundsException", "ArithmeticException", "UnsupportedOperationException",
            "NoSuchElementException", "RuntimeException");
    private static final EnumSet<Tree.Kind> RULED_OUT = EnumSet.of(Tree.Kind.LAMBDA_EXPRESSION,
            Tree.Kind.MEMBER_REFERENCE, Tree.Kind.SYNCHRONIZED, Tree.Kind.ASSERT, Tree.Kind.TRY, Tree.Kind.PACKAGE,
            Tree.Kind.ANNOTATION, Tree.Kind.UNION_TYPE, Tree.Kind.BINDING_PATTERN);

    private LanguageTest() {
    }

    /** Reads the class, or the source that is named. */
    public static void main(String[] names) throws Exception {
        Path source = Path.of(names.length > 0 ? names[0] : SOURCE);
        String text = Files.readString(source);
        for (char sign : text.toCharArray()) {
            CHECK.holds("rule 4: the sign " + (int) sign, sign <= GREATEST_SIGN);
        }
        // The compiler's parser joins written texts by itself, so that the reader below would not meet these.
        CHECK.holds("rule 10: written texts joined by +", !Pattern.compile("\"\\s*\\+\\s*\"").matcher(text).find());
        JavaCompiler compiler = ToolProvider.getSystemJavaCompiler();
        try (StandardJavaFileManager files = compiler.getStandardFileManager(null, null, null)) {
            JavacTask task = (JavacTask) compiler.getTask(null, files, null, List.of("-proc:none"), null,
                    files.getJavaFileObjects(source));
            CompilationUnitTree unit = task.parse().iterator().next();
            task.analyze();
            Reader reader = new Reader(Trees.instance(task), unit);
            reader.scan(unit, null);
            reader.looksAtCalls();
        }
        CHECK.end();
    }

    private static final class Reader extends TreePathScanner<Void, Void> {
        private final Trees trees;
        private final CompilationUnitTree unit;
        private final Map<Element, Set<Element>> calls = new HashMap<>();
        private final Map<Element, Set<String>> thrown = new HashMap<>();
        private int classes;

        Reader(Trees trees, CompilationUnitTree unit) {
            this.trees = trees;
            this.unit = unit;
        }

        @Override
        public Void scan(Tree tree, Void nothing) {
            if (tree != null) {
                CHECK.holds(place(tree) + tree.getKind(), !RULED_OUT.contains(tree.getKind()));
            }
            return super.scan(tree, nothing);
        }

        @Override
        public Void visitImport(ImportTree tree, Void nothing) {
            CHECK.is("rule 4: import", "java.util.NoSuchElementException", tree.getQualifiedIdentifier().toString());
            return null;
        }

        @Override
        public Void visitClass(ClassTree tree, Void nothing) {
            classes++;
            int fields = 0;
            for (Tree member : tree.getMembers()) {
                boolean block = member.getKind() == Tree.Kind.BLOCK;
                CHECK.holds(place(member) + "rule 5: an initialiser block", !block);
                if (member instanceof VariableTree field) {
                    boolean constant = field.getModifiers().getFlags().contains(Modifier.STATIC);
                    fields += constant ? 0 : 1;
                    CHECK.holds(place(field) + "rule 5: static state", !constant || isConstant(field));
                }
            }
            CHECK.holds(place(tree) + "rule 11: " + fields + " fields", fields <= MOST_FIELDS);
            CHECK.holds(place(tree) + "rule 2: a class in a method",
                    getCurrentPath().getParentPath().getLeaf().getKind() != Tree.Kind.BLOCK);
            return super.visitClass(tree, nothing);
        }

        private boolean isConstant(VariableTree field) {
            TypeMirror type = typeOf(field.getType());
            return field.getModifiers().getFlags().contains(Modifier.FINAL)
                    && (type.getKind().isPrimitive() || isText(type));
        }

        @Override
        public Void visitMethod(MethodTree tree, Void nothing) {
            Element method = trees.getElement(getCurrentPath());
            calls.put(method, new HashSet<>());
            thrown.put(method, new TreeSet<>());
            CHECK.holds(place(tree) + "rule 11: parameters", tree.getParameters().size() <= MOST_PARAMETERS);
            CHECK.holds(place(tree) + "rule 11: lines", linesOf(tree) <= MOST_LINES);
            return super.visitMethod(tree, nothing);
        }

        @Override
        public Void visitVariable(VariableTree tree, Void nothing) {
            CHECK.holds(place(tree) + "rule 3: " + tree.getType(), isAllowed(typeOf(tree.getType())));
            return super.visitVariable(tree, nothing);
        }

        private boolean isAllowed(TypeMirror type) {
            if (type instanceof ArrayType array) {
                TypeMirror part = array.getComponentType();
                return part.getKind() != TypeKind.ARRAY && isAllowed(part);
            }
            return type.getKind().isPrimitive() || isText(type)
                    || type instanceof DeclaredType declared && isOwn(declared.asElement());
        }

        @Override
        public Void visitForLoop(ForLoopTree tree, Void nothing) {
            CHECK.holds(place(tree) + "rule 9: a for without its end",
                    tree.getCondition() != null && tree.getUpdate().size() == 1);
            return super.visitForLoop(tree, nothing);
        }

        @Override
        public Void visitWhileLoop(WhileLoopTree tree, Void nothing) {
            CHECK.holds(place(tree) + "rule 9: a while, which this class does without", false);
            return super.visitWhileLoop(tree, nothing);
        }

        @Override
        public Void visitDoWhileLoop(DoWhileLoopTree tree, Void nothing) {
            CHECK.holds(place(tree) + "rule 9: a do, which this class does without", false);
            return super.visitDoWhileLoop(tree, nothing);
        }

        @Override
        public Void visitBinary(BinaryTree tree, Void nothing) {
            CHECK.holds(place(tree) + "rule 10: texts joined by +", !isText(typeOf(tree)));
            boolean texts = isText(typeOf(tree.getLeftOperand())) && isText(typeOf(tree.getRightOperand()));
            CHECK.holds(place(tree) + "rule 6: texts compared", !texts);
            return super.visitBinary(tree, nothing);
        }

        @Override
        public Void visitCompoundAssignment(CompoundAssignmentTree tree, Void nothing) {
            CHECK.holds(place(tree) + "rule 10: texts joined by +=", !isText(typeOf(tree.getVariable())));
            return super.visitCompoundAssignment(tree, nothing);
        }

        @Override
        public Void visitTypeCast(TypeCastTree tree, Void nothing) {
            CHECK.holds(place(tree) + "a cast that could throw", typeOf(tree.getType()).getKind().isPrimitive());
            return super.visitTypeCast(tree, nothing);
        }

        @Override
        public Void visitNewClass(NewClassTree tree, Void nothing) {
            boolean underThrow = getCurrentPath().getParentPath().getLeaf() instanceof ThrowTree;
            boolean own = isOwn(trees.getElement(getCurrentPath()).getEnclosingElement());
            CHECK.holds(place(tree) + "rule 4: " + tree, own || underThrow);
            CHECK.holds(place(tree) + "an anonymous class", tree.getClassBody() == null);
            return super.visitNewClass(tree, nothing);
        }

        @Override
        public Void visitThrow(ThrowTree tree, Void nothing) {
            Element method = methodAround();
            CHECK.holds(place(tree) + "rule 6: a throw in a constructor", method.getKind() == ElementKind.METHOD);
            if (tree.getExpression() instanceof NewClassTree made) {
                String name = made.getIdentifier().toString();
                List<? extends ExpressionTree> texts = made.getArguments();
                CHECK.holds(place(tree) + "rule 6: " + name, EXCEPTIONS.contains(name));
                CHECK.holds(place(tree) + "rule 6: no written text", texts.isEmpty()
                        || texts.size() == 1 && texts.get(0).getKind() == Tree.Kind.STRING_LITERAL);
                thrown.get(method).add(name);
            } else {
                CHECK.holds(place(tree) + "rule 6: a throw of what is not new", false);
            }
            return super.visitThrow(tree, nothing);
        }

        @Override
        public Void visitMethodInvocation(MethodInvocationTree tree, Void nothing) {
            Element called = trees.getElement(getCurrentPath());
            Element of = called.getEnclosingElement();
            if (called.getKind() != ElementKind.CONSTRUCTOR) {
                CHECK.holds(place(tree) + "rule 4: " + of + "." + called,
                        isOwn(of) || LIBRARY.contains(of.getSimpleName() + "." + called));
                calls.get(methodAround()).add(called);
            }
            return super.visitMethodInvocation(tree, nothing);
        }

        /** What can only be told of all methods together: how deep calls go, and what a call of the face can throw. */
        void looksAtCalls() {
            CHECK.holds("rule 11: " + classes + " classes", classes - 1 <= MOST_CLASSES);
            for (Element method : calls.keySet()) {
                CHECK.holds("rules 8 and 11: calls below " + method, depthOf(method, 1) <= DEEPEST_CALL);
                if (method.getModifiers().contains(Modifier.PUBLIC)) {
                    Set<String> declared = new TreeSet<>();
                    for (TypeMirror type : ((ExecutableElement) method).getThrownTypes()) {
                        declared.add(((DeclaredType) type).asElement().getSimpleName().toString());
                    }
                    CHECK.is("rule 6: what " + method + " can throw", declared, thrownBelow(method, 1));
                }
            }
        }

        /** A method that calls itself, over others too, is as deep as this looks: the class needs none. */
        private int depthOf(Element method, int depth) {
            int deepest = depth;
            if (depth <= DEEPEST_CALL) {
                for (Element called : calls.getOrDefault(method, Set.of())) {
                    deepest = Math.max(deepest, depthOf(called, depth + 1));
                }
            }
            return deepest;
        }

        private Set<String> thrownBelow(Element method, int depth) {
            Set<String> all = new TreeSet<>(thrown.getOrDefault(method, Set.of()));
            if (depth <= DEEPEST_CALL) {
                for (Element called : calls.getOrDefault(method, Set.of())) {
                    all.addAll(thrownBelow(called, depth + 1));
                }
            }
            return all;
        }

        private Element methodAround() {
            TreePath path = getCurrentPath();
            while (path.getLeaf().getKind() != Tree.Kind.METHOD) {
                path = path.getParentPath();
            }
            return trees.getElement(path);
        }

        private static boolean isOwn(Element type) {
            Element outermost = type;
            while (outermost != null && outermost.getEnclosingElement() instanceof TypeElement around) {
                outermost = around;
            }
            return outermost != null && outermost.getSimpleName().contentEquals("Coasterland");
        }

        private TypeMirror typeOf(Tree tree) {
            return trees.getTypeMirror(TreePath.getPath(unit, tree));
        }

        private static boolean isText(TypeMirror type) {
            return type instanceof DeclaredType declared && declared.asElement().toString().equals("java.lang.String");
        }

        private String place(Tree tree) {
            return "line " + lineAt(trees.getSourcePositions().getStartPosition(unit, tree)) + ": ";
        }

        private long linesOf(Tree tree) {
            SourcePositions positions = trees.getSourcePositions();
            return lineAt(positions.getEndPosition(unit, tree)) - lineAt(positions.getStartPosition(unit, tree)) + 1;
        }

        private long lineAt(long position) {
            return position < 0 ? 0 : unit.getLineMap().getLineNumber(position);
        }
    }
}
