import com.sun.source.tree.AssertTree;
import com.sun.source.tree.BlockTree;
import com.sun.source.tree.ClassTree;
import com.sun.source.tree.CompilationUnitTree;
import com.sun.source.tree.DoWhileLoopTree;
import com.sun.source.tree.ExpressionTree;
import com.sun.source.tree.ForLoopTree;
import com.sun.source.tree.LambdaExpressionTree;
import com.sun.source.tree.LiteralTree;
import com.sun.source.tree.MemberReferenceTree;
import com.sun.source.tree.MethodInvocationTree;
import com.sun.source.tree.MethodTree;
import com.sun.source.tree.NewArrayTree;
import com.sun.source.tree.NewClassTree;
import com.sun.source.tree.SynchronizedTree;
import com.sun.source.tree.ThrowTree;
import com.sun.source.tree.Tree;
import com.sun.source.tree.TryTree;
import com.sun.source.tree.TypeCastTree;
import com.sun.source.tree.VariableTree;
import com.sun.source.tree.WhileLoopTree;
import com.sun.source.util.JavacTask;
import com.sun.source.util.TreePathScanner;
import com.sun.source.util.Trees;
import java.io.IOException;
import java.nio.file.Path;
import java.util.List;
import java.util.Map;
import java.util.Set;
import java.util.TreeMap;
import java.util.TreeSet;
import java.util.regex.Pattern;
import javax.lang.model.element.Element;
import javax.lang.model.element.ElementKind;
import javax.lang.model.element.ExecutableElement;
import javax.lang.model.element.Modifier;
import javax.lang.model.element.TypeElement;
import javax.lang.model.element.VariableElement;
import javax.lang.model.type.ArrayType;
import javax.lang.model.type.TypeKind;
import javax.lang.model.type.TypeMirror;
import javax.tools.JavaCompiler;
import javax.tools.StandardJavaFileManager;
import javax.tools.ToolProvider;

/**
 * The rules of LANGUAGE.md that can be seen in the text of the class, as the compiler reads it. Where the class needs less
 * than a rule leaves it (no while, no text, no exception, no object made by a call), it is held to that.
 */
public final class LanguageTest {
    private static final Check CHECK = new Check();
    private static final Path SOURCE = Path.of("src/main/java/SixtyTablet.java");
    private static final int MOST_PARAMETERS = 7, MOST_LINES = 60, MOST_DEEP = 8, MOST_CLASSES = 12, MOST_FIELDS = 20;

    public static void main(String[] args) throws IOException {
        JavaCompiler compiler = ToolProvider.getSystemJavaCompiler();
        try (StandardJavaFileManager files = compiler.getStandardFileManager(null, null, null)) {
            JavacTask task = (JavacTask) compiler.getTask(
                null, files, null, List.of("-proc:none"), null, files.getJavaFileObjects(SOURCE));
            for (CompilationUnitTree unit : task.parse()) {
                task.analyze();
                Reader reader = new Reader(Trees.instance(task), unit);
                reader.scan(unit, null);
                reader.end();
            }
        }
        CHECK.end();
    }

    private static void ruled(String rule, boolean kept) {
        CHECK.due(rule, kept ? 1 : 0, 1);
    }

    private static final class Reader extends TreePathScanner<Void, Void> {
        private final Trees trees;
        private final CompilationUnitTree unit;
        private final Map<String, Set<String>> called = new TreeMap<>();
        private final Set<String> face = new TreeSet<>();
        private String method = "";
        private boolean inConstructor = false;
        private int classes = 0;

        Reader(Trees trees, CompilationUnitTree unit) {
            this.trees = trees;
            this.unit = unit;
        }

        /** "without a package line", "one public class"; what can be told when all is read: rules 8 and 11. */
        void end() {
            ruled("no package", unit.getPackage() == null);
            ruled("no import", unit.getImports().isEmpty());
            ruled("one class of the file", unit.getTypeDecls().size() == 1);
            ruled("rule 11: classes: " + classes, classes > 1 && classes <= MOST_CLASSES);
            CHECK.due("calls of the face, its constructor not counted", face.size(), 30);
            for (String call : face) {
                int deep = depth(call, 1);
                ruled("rules 8, 11: " + call + " goes " + deep + " calls deep", deep <= MOST_DEEP);
            }
        }

        /** How many calls stand open at once, at most; what calls itself comes out above all bounds. */
        private int depth(String name, int above) {
            int deepest = above;
            for (String next : called.getOrDefault(name, Set.of())) {
                deepest = Math.max(deepest, above > MOST_DEEP ? above + 1 : depth(next, above + 1));
            }
            return deepest;
        }

        private Element here() {
            return trees.getElement(getCurrentPath());
        }

        private static String nameOf(Element executable) {
            return executable.getEnclosingElement().getSimpleName() + "." + executable.getSimpleName();
        }

        private static boolean isOwn(Element element) {
            for (Element e = element; e != null; e = e.getEnclosingElement()) {
                if (e.getSimpleName().contentEquals("SixtyTablet")) {
                    return true;
                }
            }
            return false;
        }

        @Override
        public Void visitClass(ClassTree tree, Void none) {
            classes++;
            TypeElement element = (TypeElement) here();
            String name = element.getSimpleName().toString();
            Set<Modifier> modifiers = element.getModifiers();
            if (name.equals("SixtyTablet")) {
                ruled("rule 1: public, final", modifiers.equals(Set.of(Modifier.PUBLIC, Modifier.FINAL)));
            } else {
                ruled("rule 1: " + name + " stands inside", element.getEnclosingElement().getKind().isClass());
                ruled("rule 1: " + name + " is static", modifiers.contains(Modifier.STATIC));
                ruled("rule 1: " + name + " is not open",
                    !modifiers.contains(Modifier.PUBLIC) && !modifiers.contains(Modifier.PROTECTED));
            }
            int fields = 0;
            for (Element member : element.getEnclosedElements()) {
                fields += member.getKind() == ElementKind.FIELD && !member.getModifiers().contains(Modifier.STATIC) ? 1 : 0;
            }
            ruled("rule 11: fields of " + name + ": " + fields, fields <= MOST_FIELDS);
            return super.visitClass(tree, none);
        }

        @Override
        public Void visitMethod(MethodTree tree, Void none) {
            ExecutableElement element = (ExecutableElement) here();
            method = nameOf(element);
            inConstructor = element.getKind() == ElementKind.CONSTRUCTOR;
            if (element.getModifiers().contains(Modifier.PUBLIC) && !inConstructor) {
                face.add(method);
            }
            ruled("one method of the name " + method, called.put(method, new TreeSet<>()) == null);
            ruled("rule 11: parameters of " + method, tree.getParameters().size() <= MOST_PARAMETERS);
            ruled("rule 11: lines of " + method, lines(tree) <= MOST_LINES);
            ruled("rule 3: what " + method + " answers", mayBe(element.getReturnType()));
            ruled("rule 6: nothing is thrown by " + method, element.getThrownTypes().isEmpty());
            return super.visitMethod(tree, none);
        }

        private long lines(Tree tree) {
            long start = trees.getSourcePositions().getStartPosition(unit, tree);
            long end = trees.getSourcePositions().getEndPosition(unit, tree);
            return end < start ? 0 : unit.getLineMap().getLineNumber(end) - unit.getLineMap().getLineNumber(start) + 1;
        }

        /** Rule 3: whole numbers, own classes, and arrays of them, of one dimension. */
        private static boolean mayBe(TypeMirror type) {
            TypeMirror single = type.getKind() == TypeKind.ARRAY ? ((ArrayType) type).getComponentType() : type;
            switch (single.getKind()) {
                case INT: case LONG: case BOOLEAN: case VOID:
                    return true;
                case DECLARED:
                    return single.toString().startsWith("SixtyTablet");
                default:
                    return false;
            }
        }

        @Override
        public Void visitVariable(VariableTree tree, Void none) {
            VariableElement element = (VariableElement) here();
            String name = element.getSimpleName().toString();
            ruled("rule 3: " + name, mayBe(element.asType()));
            if (element.getModifiers().contains(Modifier.STATIC)) {
                ruled("rule 5: " + name + " is final", element.getModifiers().contains(Modifier.FINAL));
                ruled("rule 5: " + name + " is written out",
                    element.getConstantValue() != null || isWrittenOut(tree.getInitializer()));
            }
            return super.visitVariable(tree, none);
        }

        /** An array of numbers within braces. */
        private static boolean isWrittenOut(ExpressionTree tree) {
            if (!(tree instanceof NewArrayTree) || ((NewArrayTree) tree).getInitializers() == null) {
                return false;
            }
            for (ExpressionTree part : ((NewArrayTree) tree).getInitializers()) {
                if (!(part instanceof LiteralTree)) {
                    return false;
                }
            }
            return true;
        }

        @Override
        public Void visitMethodInvocation(MethodInvocationTree tree, Void none) {
            Element element = here();
            String owner = element.getEnclosingElement().toString();
            if (isOwn(element)) {
                called.get(method).add(nameOf(element));
            } else if (element.getKind() != ElementKind.CONSTRUCTOR) {
                called.get(method).add(nameOf(element));
                ruled("rule 4: " + method + " calls " + nameOf(element),
                    Set.of("java.lang.Math", "java.lang.Integer", "java.lang.Long").contains(owner)
                        && !element.getSimpleName().toString().endsWith("Exact"));
            }
            return super.visitMethodInvocation(tree, none);
        }

        /** No call makes an object: the room of a run does not grow with its calls. */
        @Override
        public Void visitNewClass(NewClassTree tree, Void none) {
            ruled("rule 12: " + method + " makes an object", inConstructor && tree.getClassBody() == null);
            ruled("rule 3: what is made in " + method, isOwn(here()));
            return super.visitNewClass(tree, none);
        }

        @Override
        public Void visitNewArray(NewArrayTree tree, Void none) {
            boolean constant = getCurrentPath().getParentPath().getLeaf().getKind() == Tree.Kind.VARIABLE
                && getCurrentPath().getParentPath().getParentPath().getLeaf().getKind() == Tree.Kind.CLASS;
            ruled("rule 12: " + method + " makes an array", constant || inConstructor);
            return super.visitNewArray(tree, none);
        }

        @Override
        public Void visitTypeCast(TypeCastTree tree, Void none) {
            ruled("rule 6: a cast in " + method + " is of numbers", tree.getType().getKind() == Tree.Kind.PRIMITIVE_TYPE);
            return super.visitTypeCast(tree, none);
        }

        /** Rule 9: a counter that goes by one, against a bound: the first thing that the loop looks at. */
        @Override
        public Void visitForLoop(ForLoopTree tree, Void none) {
            boolean one = tree.getInitializer().size() == 1 && tree.getUpdate().size() == 1 && tree.getCondition() != null;
            ruled("rule 9: a loop in " + method + " has one counter", one);
            if (one) {
                String counter = ((VariableTree) tree.getInitializer().get(0)).getName().toString();
                String bound = tree.getCondition().toString();
                String step = tree.getUpdate().get(0).getExpression().toString();
                boolean up = bound.startsWith(counter + " < ") || bound.startsWith(counter + " <= ");
                boolean down = bound.startsWith(counter + " >= 0");
                ruled("rule 9: the loop of " + counter + " in " + method + " has an end",
                    up && (step.equals(counter + "++") || step.equals(counter + " += 2"))
                        || down && step.equals(counter + "--"));
                ruled("rule 9: the body leaves " + counter + " in " + method + " alone",
                    !Pattern.compile("\\b" + counter + " ?([-+*/%&|^]?=[^=]|\\+\\+|--)")
                        .matcher(tree.getStatement().toString()).find());
            }
            return super.visitForLoop(tree, none);
        }

        @Override
        public Void visitWhileLoop(WhileLoopTree tree, Void none) {
            ruled("rule 9: a while in " + method, false);
            return super.visitWhileLoop(tree, none);
        }

        @Override
        public Void visitDoWhileLoop(DoWhileLoopTree tree, Void none) {
            ruled("rule 9: a do in " + method, false);
            return super.visitDoWhileLoop(tree, none);
        }

        @Override
        public Void visitBlock(BlockTree tree, Void none) {
            boolean bare = getCurrentPath().getParentPath().getLeaf() instanceof ClassTree;
            ruled("rule 5: no block of a class", !bare);
            return super.visitBlock(tree, none);
        }

        @Override
        public Void visitThrow(ThrowTree tree, Void none) {
            ruled("rule 6: the document names no exception, but there is one in " + method, false);
            return super.visitThrow(tree, none);
        }

        @Override
        public Void visitTry(TryTree tree, Void none) {
            ruled("rule 6: a try in " + method, false);
            return super.visitTry(tree, none);
        }

        @Override
        public Void visitAssert(AssertTree tree, Void none) {
            ruled("rule 6: an assert in " + method, false);
            return super.visitAssert(tree, none);
        }

        @Override
        public Void visitSynchronized(SynchronizedTree tree, Void none) {
            ruled("rule 6: synchronized in " + method, false);
            return super.visitSynchronized(tree, none);
        }

        @Override
        public Void visitLambdaExpression(LambdaExpressionTree tree, Void none) {
            ruled("rule 2: a lambda in " + method, false);
            return super.visitLambdaExpression(tree, none);
        }

        @Override
        public Void visitMemberReference(MemberReferenceTree tree, Void none) {
            ruled("rule 2: a method reference in " + method, false);
            return super.visitMemberReference(tree, none);
        }
    }
}
