import com.sun.source.tree.BinaryTree;
import com.sun.source.tree.ClassTree;
import com.sun.source.tree.CompilationUnitTree;
import com.sun.source.tree.ImportTree;
import com.sun.source.tree.LineMap;
import com.sun.source.tree.MethodInvocationTree;
import com.sun.source.tree.MethodTree;
import com.sun.source.tree.NewArrayTree;
import com.sun.source.tree.NewClassTree;
import com.sun.source.tree.Tree;
import com.sun.source.tree.VariableTree;
import com.sun.source.util.JavacTask;
import com.sun.source.util.TreePath;
import com.sun.source.util.TreePathScanner;
import com.sun.source.util.Trees;
import java.io.IOException;
import java.nio.charset.StandardCharsets;
import java.nio.file.Files;
import java.nio.file.Path;
import java.util.EnumSet;
import java.util.List;
import java.util.Set;
import java.util.TreeSet;
import javax.lang.model.element.Element;
import javax.lang.model.element.Modifier;
import javax.tools.JavaCompiler;
import javax.tools.StandardJavaFileManager;
import javax.tools.ToolProvider;

/** The class keeps to those rules of LANGUAGE.md that the compiler's tree of it can tell. */
public final class LanguageTest {
    private static final Path SOURCE = Path.of("src/main/java/NotAnOx.java");

    private static final Set<Tree.Kind> LEFT_OUT = EnumSet.of(Tree.Kind.LAMBDA_EXPRESSION, Tree.Kind.MEMBER_REFERENCE,
        Tree.Kind.SYNCHRONIZED, Tree.Kind.ASSERT, Tree.Kind.PACKAGE, Tree.Kind.TRY, Tree.Kind.THROW, Tree.Kind.CATCH);

    /** Of what rule 4 lists, that which the class uses; one more is put here when it is used, rule 4 in hand. */
    private static final Set<String> LIBRARY = Set.of("java.lang.Object.Object()",
        "java.lang.Integer.bitCount(int)", "java.lang.Math.max(int,int)", "java.lang.Math.min(int,int)",
        "java.lang.String.charAt(int)", "java.lang.String.length()", "java.util.Arrays.fill(int[],int)",
        "java.lang.System.arraycopy(java.lang.Object,int,java.lang.Object,int,int)");

    private static final class Scan extends TreePathScanner<Void, Void> {
        private final Trees trees;
        private final CompilationUnitTree unit;
        private final LineMap lines;
        private final Set<String> open = new TreeSet<>();
        private final Set<String> closed = new TreeSet<>();
        private int classes;

        Scan(Trees itsTrees, CompilationUnitTree itsUnit) {
            trees = itsTrees;
            unit = itsUnit;
            lines = itsUnit.getLineMap();
        }

        private long line(long place) {
            return lines.getLineNumber(place);
        }

        private String at(Tree tree) {
            return " (line " + line(trees.getSourcePositions().getStartPosition(unit, tree)) + ")";
        }

        @Override
        public Void scan(Tree tree, Void none) {
            if (tree != null) {
                hold(tree.getKind() + at(tree), !LEFT_OUT.contains(tree.getKind()));
            }
            return super.scan(tree, none);
        }

        @Override
        public Void visitImport(ImportTree tree, Void none) {
            String name = tree.getQualifiedIdentifier().toString();
            hold("rule 4: import " + name,
                Set.of("java.util.Arrays", "java.util.ArrayList", "java.util.List").contains(name));
            return super.visitImport(tree, none);
        }

        @Override
        public Void visitClass(ClassTree tree, Void none) {
            classes++;
            Set<Modifier> modifiers = tree.getModifiers().getFlags();
            boolean outer = getCurrentPath().getParentPath().getLeaf() == unit;
            hold("rule 1: public, or static and not: " + tree.getSimpleName(),
                modifiers.contains(Modifier.PUBLIC) == outer && modifiers.contains(Modifier.STATIC) != outer);
            int fields = 0;
            for (Tree member : tree.getMembers()) {
                hold("rule 5: no block in " + tree.getSimpleName() + at(member), member.getKind() != Tree.Kind.BLOCK);
                if (member instanceof VariableTree field) {
                    fields += isStatic(field) ? 0 : 1;
                    hold("rule 5: final" + at(field),
                        !isStatic(field) || field.getModifiers().getFlags().contains(Modifier.FINAL));
                }
            }
            hold("rule 11: fields of " + tree.getSimpleName(), fields <= 20);
            return super.visitClass(tree, none);
        }

        private static boolean isStatic(VariableTree field) {
            return field.getModifiers().getFlags().contains(Modifier.STATIC);
        }

        @Override
        public Void visitMethod(MethodTree tree, Void none) {
            String name = tree.getName().toString();
            long first = line(trees.getSourcePositions().getStartPosition(unit, tree));
            long last = line(trees.getSourcePositions().getEndPosition(unit, tree));
            hold("rule 11: lines of " + name, last - first < 60);
            hold("rule 11: parameters of " + name, tree.getParameters().size() <= 7);
            (tree.getModifiers().getFlags().contains(Modifier.PUBLIC) ? open : closed).add(name);
            return super.visitMethod(tree, none);
        }

        @Override
        public Void visitMethodInvocation(MethodInvocationTree tree, Void none) {
            Element called = trees.getElement(getCurrentPath());
            String name = called.getEnclosingElement() + "." + called;
            hold("rule 4: " + name + at(tree), name.startsWith("NotAnOx") || LIBRARY.contains(name));
            return super.visitMethodInvocation(tree, none);
        }

        @Override
        public Void visitNewClass(NewClassTree tree, Void none) {
            hold("rule 12: an object made by a call" + at(tree), isInConstructor());
            hold("rule 2: a class without a name" + at(tree), tree.getClassBody() == null);
            return super.visitNewClass(tree, none);
        }

        @Override
        public Void visitNewArray(NewArrayTree tree, Void none) {
            hold("rule 12: an array made by a call" + at(tree), isInConstructor());
            return super.visitNewArray(tree, none);
        }

        /** What stands at a field is made in the constructor, too. */
        private boolean isInConstructor() {
            for (TreePath path = getCurrentPath(); path != null; path = path.getParentPath()) {
                if (path.getLeaf() instanceof MethodTree method) {
                    return method.getName().contentEquals("<init>");
                }
            }
            return true;
        }

        @Override
        public Void visitBinary(BinaryTree tree, Void none) {
            boolean ofText = tree.getKind() == Tree.Kind.PLUS
                && trees.getTypeMirror(getCurrentPath()).toString().equals("java.lang.String");
            hold("rule 10: texts joined by +" + at(tree), !ofText);
            return super.visitBinary(tree, none);
        }

        void end() {
            closed.retainAll(open);
            closed.remove("<init>");
            hold("rule 1: names of public ones again " + closed, closed.isEmpty());
            hold("rule 11: classes", classes <= 12);
            hold("methods were met", open.size() > 20);
        }
    }

    private static void hold(String what, boolean holds) {
        Due.due(what, holds ? 1 : 0, 1);
    }

    public static void main(String[] args) throws IOException {
        String source = Files.readString(SOURCE, StandardCharsets.UTF_8);
        Due.due("rule 4: signs beyond 32 to 126",
            source.chars().filter(sign -> sign != '\n' && (sign < 32 || sign > 126)).count(), 0);
        JavaCompiler compiler = ToolProvider.getSystemJavaCompiler();
        try (StandardJavaFileManager files = compiler.getStandardFileManager(null, null, null)) {
            JavacTask task = (JavacTask) compiler.getTask(null, files, null, List.of("-proc:none"), null,
                files.getJavaFileObjects(SOURCE));
            CompilationUnitTree unit = task.parse().iterator().next();
            task.analyze();
            Scan scan = new Scan(Trees.instance(task), unit);
            scan.scan(unit, null);
            scan.end();
        }
        Due.end();
    }
}
