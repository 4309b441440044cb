import com.sun.source.tree.AssertTree;
import com.sun.source.tree.BinaryTree;
import com.sun.source.tree.ClassTree;
import com.sun.source.tree.CompilationUnitTree;
import com.sun.source.tree.ImportTree;
import com.sun.source.tree.LambdaExpressionTree;
import com.sun.source.tree.MemberReferenceTree;
import com.sun.source.tree.MethodTree;
import com.sun.source.tree.NewClassTree;
import com.sun.source.tree.SynchronizedTree;
import com.sun.source.tree.ThrowTree;
import com.sun.source.tree.Tree;
import com.sun.source.tree.TryTree;
import com.sun.source.tree.TypeCastTree;
import com.sun.source.tree.VariableTree;
import com.sun.source.util.JavacTask;
import com.sun.source.util.TreeScanner;
import com.sun.source.util.Trees;
import java.io.File;
import java.lang.reflect.Constructor;
import java.lang.reflect.Field;
import java.lang.reflect.Method;
import java.lang.reflect.Modifier;
import java.util.List;
import java.util.Set;
import java.util.TreeSet;
import javax.tools.JavaCompiler;
import javax.tools.StandardJavaFileManager;
import javax.tools.ToolProvider;

/** What LANGUAGE.md asks of src/main/java/WordWar.java, as far as a machine can see it; args[0] is the project's folder. */
public final class RulesTest {
    private static final String FACE = "strength:boolean:ii reserve:boolean:iii feed:int:iiiii order:boolean:i "
            + "lexicon:int:ii law:int:i orders:int:ii judged:int:ii turn:int: word:int:iii beats:int:ii place:int:iii "
            + "best:int:ii against:int:ii atOnce:int:i exchange:int:ii exchanged:boolean:iii home:boolean:ii "
            + "peace:int:iii spy:int:iii fight:int:i learnt:long:i ahead:long:ii skirmish:long:i forget:int: "
            + "soldier:boolean:iiiii march:int:iiiii dead:int:ii seed:boolean:i keep:int: undo:boolean: "
            + "check:int:ii count:int:i";

    private static final Set<String> FACE_NAMES = new TreeSet<>();

    public static void main(String[] args) throws Exception {
        for (String one : FACE.split(" ")) {
            FACE_NAMES.add(one.substring(0, one.indexOf(':')));
        }
        face();
        source(new File(args.length > 0 ? args[0] : ".", "src/main/java/WordWar.java"));
        Due.end();
    }

    private static void face() {
        Set<String> found = new TreeSet<>();
        for (Method method : WordWar.class.getDeclaredMethods()) {
            if (!Modifier.isPrivate(method.getModifiers())) {
                found.add(method.getName() + ":" + method.getReturnType() + ":" + "i".repeat(method.getParameterCount()));
                Due.is("rule 1: public " + method.getName(), method.getModifiers(), Modifier.PUBLIC);
                for (Class<?> type : method.getParameterTypes()) {
                    Due.is("rule 1: int", type == int.class, true);
                }
            }
        }
        Due.is("rule 1: the document's methods " + found, found.equals(new TreeSet<>(List.of(FACE.split(" ")))), true);
        for (Field field : WordWar.class.getDeclaredFields()) {
            boolean none = field.getName().equals("NONE");
            Due.is("rule 1: private " + field.getName(), Modifier.isPrivate(field.getModifiers()), !none);
        }
        Constructor<?>[] constructors = WordWar.class.getDeclaredConstructors();
        Due.is("rule 1: one constructor", constructors.length, 1);
        Due.is("rule 1: public and bare", constructors[0].getModifiers() == Modifier.PUBLIC
                && constructors[0].getParameterCount() == 0, true);
        Due.is("rule 1: public final class", WordWar.class.getModifiers(), Modifier.PUBLIC | Modifier.FINAL);
        for (Class<?> inner : WordWar.class.getDeclaredClasses()) {
            int modifiers = inner.getModifiers();
            Due.is("rule 2: static " + inner, Modifier.isStatic(modifiers) && !Modifier.isPublic(modifiers), true);
        }
    }

    private static void source(File file) throws Exception {
        JavaCompiler compiler = ToolProvider.getSystemJavaCompiler();
        StandardJavaFileManager files = compiler.getStandardFileManager(null, null, null);
        JavacTask task = (JavacTask) compiler.getTask(null, files, null, null, null, files.getJavaFileObjects(file));
        CompilationUnitTree unit = task.parse().iterator().next();
        new Rules(unit, Trees.instance(task)).scan(unit, null);
    }

    private static final class Rules extends TreeScanner<Void, Void> {
        private final CompilationUnitTree unit;
        private final Trees trees;
        private int classes = 0;

        Rules(CompilationUnitTree unit, Trees trees) {
            this.unit = unit;
            this.trees = trees;
        }

        private long line(long position) {
            return unit.getLineMap().getLineNumber(position);
        }

        private void ban(int rule, Tree tree) {
            long at = line(trees.getSourcePositions().getStartPosition(unit, tree));
            Due.is("rule " + rule + ", line " + at + ": " + tree, false, true);
        }

        @Override
        public Void visitCompilationUnit(CompilationUnitTree tree, Void none) {
            super.visitCompilationUnit(tree, none);
            Due.is("rule 11: at most twelve classes: " + classes, classes <= 12, true);
            return null;
        }

        @Override
        public Void visitImport(ImportTree tree, Void none) {
            String name = tree.getQualifiedIdentifier().toString();
            Due.is("rule 4: " + name, List.of("java.util.Arrays", "java.util.ArrayList", "java.util.List").contains(name), true);
            return null;
        }

        @Override
        public Void visitClass(ClassTree tree, Void none) {
            classes++;
            int fields = 0;
            for (Tree member : tree.getMembers()) {
                if (member instanceof VariableTree field) {
                    boolean constant = field.getModifiers().getFlags().contains(javax.lang.model.element.Modifier.STATIC);
                    boolean last = field.getModifiers().getFlags().contains(javax.lang.model.element.Modifier.FINAL);
                    Due.is("rule 5: " + field.getName(), !constant || last, true);
                    fields += constant ? 0 : 1;
                }
                if (member.getKind() == Tree.Kind.BLOCK) {
                    ban(5, member);
                }
            }
            Due.is("rule 11: fields of " + tree.getSimpleName() + ": " + fields, fields <= 20, true);
            return super.visitClass(tree, none);
        }

        @Override
        public Void visitMethod(MethodTree tree, Void none) {
            long first = line(trees.getSourcePositions().getStartPosition(unit, tree));
            long last = line(trees.getSourcePositions().getEndPosition(unit, tree));
            String name = tree.getName().toString();
            Due.is("rule 11: lines of " + name, last - first < 60, true);
            Due.is("rule 11: parameters of " + name, tree.getParameters().size() <= 7, true);
            boolean open = tree.getModifiers().getFlags().contains(javax.lang.model.element.Modifier.PUBLIC);
            Due.is("rule 1: the name " + name, open || !FACE_NAMES.contains(name), true);
            Due.is("rule 6: the name " + name, List.of("equals", "hashCode", "toString").contains(name), false);
            return super.visitMethod(tree, none);
        }

        @Override
        public Void visitThrow(ThrowTree tree, Void none) {
            ban(6, tree);
            return null;
        }

        @Override
        public Void visitTry(TryTree tree, Void none) {
            ban(6, tree);
            return null;
        }

        @Override
        public Void visitSynchronized(SynchronizedTree tree, Void none) {
            ban(6, tree);
            return null;
        }

        @Override
        public Void visitAssert(AssertTree tree, Void none) {
            ban(6, tree);
            return null;
        }

        @Override
        public Void visitLambdaExpression(LambdaExpressionTree tree, Void none) {
            ban(2, tree);
            return null;
        }

        @Override
        public Void visitMemberReference(MemberReferenceTree tree, Void none) {
            ban(2, tree);
            return null;
        }

        @Override
        public Void visitNewClass(NewClassTree tree, Void none) {
            if (tree.getClassBody() != null) {
                ban(2, tree);
            }
            return super.visitNewClass(tree, none);
        }

        @Override
        public Void visitTypeCast(TypeCastTree tree, Void none) {
            if (tree.getType().getKind() != Tree.Kind.PRIMITIVE_TYPE) {
                ban(6, tree);
            }
            return super.visitTypeCast(tree, none);
        }

        @Override
        public Void visitBinary(BinaryTree tree, Void none) {
            if (tree.getLeftOperand().getKind() == Tree.Kind.STRING_LITERAL
                    || tree.getRightOperand().getKind() == Tree.Kind.STRING_LITERAL) {
                ban(10, tree);
            }
            return super.visitBinary(tree, none);
        }
    }
}
