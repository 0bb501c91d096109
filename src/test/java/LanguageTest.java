import com.sun.source.tree.AssertTree;
import com.sun.source.tree.BinaryTree;
import com.sun.source.tree.ClassTree;
import com.sun.source.tree.CompilationUnitTree;
import com.sun.source.tree.ImportTree;
import com.sun.source.tree.LambdaExpressionTree;
import com.sun.source.tree.MemberReferenceTree;
import com.sun.source.tree.MethodTree;
import com.sun.source.tree.NewClassTree;
import com.sun.source.tree.SynchronizedTree;
import com.sun.source.tree.ThrowTree;
import com.sun.source.tree.Tree;
import com.sun.source.tree.TryTree;
import com.sun.source.tree.VariableTree;
import com.sun.source.util.JavacTask;
import com.sun.source.util.TreeScanner;
import com.sun.source.util.Trees;
import java.nio.charset.StandardCharsets;
import java.nio.file.Files;
import java.nio.file.Path;
import java.util.HashSet;
import java.util.List;
import java.util.Set;
import javax.lang.model.element.Modifier;
import javax.tools.JavaCompiler;
import javax.tools.StandardJavaFileManager;
import javax.tools.ToolProvider;

/** What of LANGUAGE.md can be seen by a walk through the source's tree. */
public final class LanguageTest {
    private static final Checks CHECKS = new Checks();
    private static final Path SOURCE = Path.of("src/main/java/NinetyNights.java");
    private static final Set<String> FACE = Set.of("NONE", "GAP", "feed", "end", "island", "fault", "sees", "worlds",
            "possible", "like", "own", "ask", "holds", "deep", "say", "saying", "whisper", "night", "gone", "when",
            "fewest", "sight", "untell", "later", "fits", "sure", "image", "back", "about", "<init>");
    private static final Set<String> IMPORTS = Set.of("java.util.Arrays", "java.util.ArrayList", "java.util.List",
            "java.util.Iterator");

    public static void main(String[] args) throws Exception {
        for (byte b : Files.readAllBytes(SOURCE)) {
            CHECKS.due("a sign of the source is below 128", b >= 0, true);
        }
        JavaCompiler compiler = ToolProvider.getSystemJavaCompiler();
        try (StandardJavaFileManager files =
                compiler.getStandardFileManager(null, null, StandardCharsets.US_ASCII)) {
            JavacTask task = (JavacTask) compiler.getTask(null, files, null, List.of("-proc:none"), null,
                    files.getJavaFileObjects(SOURCE));
            Iterable<? extends CompilationUnitTree> units = task.parse();
            task.analyze();
            for (CompilationUnitTree unit : units) {
                new Walk(unit, Trees.instance(task)).scan(unit, null);
                int deepest = new CallDepth(Trees.instance(task), unit).most();
                CHECKS.due("rule 11, calls go " + deepest + " deep, at most eight", deepest <= 8, true);
            }
        }
        CHECKS.finish();
    }

    private static void broken(int rule, String what) {
        CHECKS.due("rule " + rule + ", " + what + ": kept", false, true);
    }

    private static final class Walk extends TreeScanner<Void, Void> {
        private final CompilationUnitTree unit;
        private final Trees trees;
        private final Set<String> face = new HashSet<>();
        private int classes = 0;

        Walk(CompilationUnitTree unit, Trees trees) {
            this.unit = unit;
            this.trees = trees;
        }

        private long line(Tree tree, boolean end) {
            long at = end ? trees.getSourcePositions().getEndPosition(unit, tree)
                    : trees.getSourcePositions().getStartPosition(unit, tree);
            return unit.getLineMap().getLineNumber(at);
        }

        @Override
        public Void visitCompilationUnit(CompilationUnitTree tree, Void none) {
            super.visitCompilationUnit(tree, none);
            CHECKS.due("rule 1, the face is whole", face.equals(FACE), true);
            CHECKS.due("rule 11, at most twelve classes", classes <= 12, true);
            CHECKS.due("rule 1, no package", tree.getPackageName() == null, true);
            return null;
        }

        @Override
        public Void visitImport(ImportTree tree, Void none) {
            if (!IMPORTS.contains(tree.getQualifiedIdentifier().toString())) {
                broken(4, tree.toString());
            }
            return null;
        }

        @Override
        public Void visitClass(ClassTree tree, Void none) {
            classes++;
            boolean outer = tree.getSimpleName().contentEquals("NinetyNights");
            Set<Modifier> flags = tree.getModifiers().getFlags();
            Set<Modifier> due = outer ? Set.of(Modifier.PUBLIC, Modifier.FINAL)
                    : Set.of(Modifier.PRIVATE, Modifier.STATIC, Modifier.FINAL);
            CHECKS.due("rules 1 and 2, " + tree.getSimpleName(), flags.equals(due), true);
            int fields = 0;
            for (Tree member : tree.getMembers()) {
                if (member.getKind() == Tree.Kind.BLOCK) {
                    broken(5, "an initialiser block");
                }
                if (member instanceof VariableTree field) {
                    fields += field.getModifiers().getFlags().contains(Modifier.STATIC) ? 0 : 1;
                    look(field, outer);
                }
                if (member instanceof MethodTree method) {
                    look(method, outer);
                }
            }
            CHECKS.due("rule 11, fields of " + tree.getSimpleName(), fields <= 20, true);
            return super.visitClass(tree, none);
        }

        private void look(VariableTree field, boolean outer) {
            Set<Modifier> flags = field.getModifiers().getFlags();
            String name = field.getName().toString();
            if (flags.contains(Modifier.STATIC) && !flags.contains(Modifier.FINAL)) {
                broken(5, name);
            }
            if (outer && flags.contains(Modifier.PUBLIC)) {
                face.add(name);
            } else if (outer && !flags.contains(Modifier.PRIVATE)) {
                broken(1, name);
            }
        }

        private void look(MethodTree method, boolean outer) {
            Set<Modifier> flags = method.getModifiers().getFlags();
            String name = method.getName().toString();
            CHECKS.due("rule 11, lines of " + name, line(method, true) - line(method, false) < 60, true);
            CHECKS.due("rule 11, parameters of " + name, method.getParameters().size() <= 7, true);
            if (outer && flags.contains(Modifier.PUBLIC)) {
                face.add(name);
            } else if (outer && !flags.contains(Modifier.PRIVATE)) {
                broken(1, name);
            } else if (FACE.contains(name) && !name.equals("<init>")) {
                broken(1, "the name " + name);
            }
        }

        @Override
        public Void visitNewClass(NewClassTree tree, Void none) {
            if (tree.getClassBody() != null) {
                broken(2, "a class without a name");
            }
            return super.visitNewClass(tree, none);
        }

        @Override
        public Void visitLambdaExpression(LambdaExpressionTree tree, Void none) {
            broken(2, tree.toString());
            return null;
        }

        @Override
        public Void visitMemberReference(MemberReferenceTree tree, Void none) {
            broken(2, tree.toString());
            return null;
        }

        @Override
        public Void visitThrow(ThrowTree tree, Void none) {
            broken(6, tree.toString());
            return null;
        }

        @Override
        public Void visitTry(TryTree tree, Void none) {
            broken(6, tree.toString());
            return null;
        }

        @Override
        public Void visitSynchronized(SynchronizedTree tree, Void none) {
            broken(6, tree.toString());
            return null;
        }

        @Override
        public Void visitAssert(AssertTree tree, Void none) {
            broken(6, tree.toString());
            return null;
        }

        @Override
        public Void visitBinary(BinaryTree tree, Void none) {
            boolean text = tree.getLeftOperand().getKind() == Tree.Kind.STRING_LITERAL
                    || tree.getRightOperand().getKind() == Tree.Kind.STRING_LITERAL;
            if (text) {
                broken(10, tree.toString());
            }
            return super.visitBinary(tree, none);
        }
    }
}
