import com.sun.source.tree.AssignmentTree;
import com.sun.source.tree.BinaryTree;
import com.sun.source.tree.BlockTree;
import com.sun.source.tree.ClassTree;
import com.sun.source.tree.CompilationUnitTree;
import com.sun.source.tree.DoWhileLoopTree;
import com.sun.source.tree.ForLoopTree;
import com.sun.source.tree.LiteralTree;
import com.sun.source.tree.MemberSelectTree;
import com.sun.source.tree.MethodInvocationTree;
import com.sun.source.tree.MethodTree;
import com.sun.source.tree.NewArrayTree;
import com.sun.source.tree.NewClassTree;
import com.sun.source.tree.ParenthesizedTree;
import com.sun.source.tree.StatementTree;
import com.sun.source.tree.Tree;
import com.sun.source.tree.TypeCastTree;
import com.sun.source.tree.VariableTree;
import com.sun.source.tree.WhileLoopTree;
import com.sun.source.util.JavacTask;
import com.sun.source.util.SourcePositions;
import com.sun.source.util.TreeScanner;
import com.sun.source.util.Trees;
import java.io.IOException;
import java.nio.file.Path;
import java.util.ArrayDeque;
import java.util.Deque;
import java.util.List;
import java.util.Set;
import java.util.TreeMap;
import java.util.TreeSet;
import javax.lang.model.element.Modifier;
import javax.tools.JavaCompiler;
import javax.tools.StandardJavaFileManager;
import javax.tools.ToolProvider;

/**
 * The file as LANGUAGE.md wants it, rule by rule, as far as its syntax tree can tell; FaceTest looks for
 * single words. Where the class needs less than a rule allows (no library but Math.min and Math.max, no
 * recursion, no object made by a method), the test holds it to the less, for that is easier to see.
 */
public final class LanguageTest {
    private static final String FILE = "src/main/java/LedgerShares.java";
    private static final Set<String> LIBRARY = Set.of("Math.min", "Math.max");
    private static final Set<String> TYPES = Set.of("void", "int", "long", "boolean", "int[]", "long[]", "boolean[]");
    private static final Set<String> CONSTANTS = Set.of("int", "long", "boolean", "char", "String");
    private static final Due due = new Due();

    public static void main(String[] args) throws IOException {
        JavaCompiler compiler = ToolProvider.getSystemJavaCompiler();
        try (StandardJavaFileManager files = compiler.getStandardFileManager(null, null, null)) {
            JavacTask task = (JavacTask) compiler.getTask(null, files, null, List.of("--release", "17"), null,
                files.getJavaFileObjects(Path.of(FILE)));
            CompilationUnitTree unit = task.parse().iterator().next();
            Walk walk = new Walk(unit, Trees.instance(task).getSourcePositions());
            walk.names();
            walk.scan(unit, null);
            walk.wholeFile();
        }
        due.end();
    }

    private static final class Walk extends TreeScanner<Void, Void> {
        private final CompilationUnitTree unit;
        private final SourcePositions places;
        private final Set<String> own = new TreeSet<>();
        private final Set<String> openNames = new TreeSet<>();
        private final TreeMap<String, Set<String>> callsOf = new TreeMap<>();
        private final Deque<ClassTree> inside = new ArrayDeque<>();
        private MethodTree method;

        Walk(CompilationUnitTree unit, SourcePositions places) {
            this.unit = unit;
            this.places = places;
        }

        private String at(Tree tree) {
            return "line " + unit.getLineMap().getLineNumber(places.getStartPosition(unit, tree));
        }

        private void never(String rule, Tree tree) {
            due.about("LANGUAGE " + rule);
            due.is(at(tree), true, false);
        }

        private void holds(String rule, Tree tree, boolean holds) {
            due.about("LANGUAGE " + rule);
            due.is(at(tree), holds, true);
        }

        /** What the later walk must know ahead of it. */
        void names() {
            new TreeScanner<Void, Void>() {
                @Override
                public Void visitClass(ClassTree tree, Void none) {
                    own.add(tree.getSimpleName().toString());
                    return super.visitClass(tree, none);
                }

                @Override
                public Void visitMethod(MethodTree tree, Void none) {
                    if (tree.getModifiers().getFlags().contains(Modifier.PUBLIC)) {
                        openNames.add(tree.getName().toString());
                    }
                    return super.visitMethod(tree, none);
                }
            }.scan(unit, null);
            openNames.remove("<init>");
        }

        void wholeFile() {
            due.about("LANGUAGE");
            due.is("no package", unit.getPackageName() == null, true);
            due.is("4: imports", unit.getImports().size(), 0);
            due.is("1: classes of the file's own", unit.getTypeDecls().size(), 1);
            due.is("11: at most twelve classes", own.size() <= 12, true);
            for (String name : callsOf.keySet()) {
                due.is("8 and 11: no recursion, at most eight deep: " + name, depth(name, 0) <= 8, true);
            }
        }

        /** How many calls stand open from here on; more than any that is fine if it comes round. */
        private int depth(String name, int above) {
            int deepest = 0;
            if (above > 20) {
                return above;
            }
            for (String next : callsOf.getOrDefault(name, Set.of())) {
                deepest = Math.max(deepest, depth(next, above + 1));
            }
            return deepest + 1;
        }

        @Override
        public Void visitClass(ClassTree tree, Void none) {
            Set<Modifier> flags = tree.getModifiers().getFlags();
            if (inside.isEmpty()) {
                holds("1: public and final", tree, flags.containsAll(Set.of(Modifier.PUBLIC, Modifier.FINAL)));
            } else {
                holds("2: static, neither public nor protected", tree, flags.contains(Modifier.STATIC)
                    && !flags.contains(Modifier.PUBLIC) && !flags.contains(Modifier.PROTECTED));
                holds("2: neither local nor without a name", tree, method == null && tree.getSimpleName().length() > 0);
            }
            int fields = 0;
            for (Tree member : tree.getMembers()) {
                if (member instanceof VariableTree field) {
                    fields += field.getModifiers().getFlags().contains(Modifier.STATIC) ? 0 : 1;
                    isField(field);
                } else if (member instanceof BlockTree) {
                    never("5: no initialiser block", member);
                }
            }
            holds("11: some twenty fields", tree, fields <= 20);
            inside.push(tree);
            super.visitClass(tree, none);
            inside.pop();
            return null;
        }

        private void isField(VariableTree field) {
            Set<Modifier> flags = field.getModifiers().getFlags();
            if (flags.contains(Modifier.STATIC)) {
                holds("5: static fields are final", field, flags.contains(Modifier.FINAL));
                holds("5: constants", field, CONSTANTS.contains(field.getType().toString())
                    && field.getInitializer() != null);
            }
        }

        @Override
        public Void visitMethod(MethodTree tree, Void none) {
            Set<Modifier> flags = tree.getModifiers().getFlags();
            String name = tree.getName().toString();
            boolean face = inside.size() == 1;
            holds("1: public or private", tree, !face || flags.contains(Modifier.PUBLIC) || flags.contains(Modifier.PRIVATE));
            holds("1: no other bears a public one's name", tree, face && flags.contains(Modifier.PUBLIC)
                || !openNames.contains(name));
            holds("6: no equals, hashCode, toString", tree, !Set.of("equals", "hashCode", "toString").contains(name));
            holds("11: at most seven parameters", tree, tree.getParameters().size() <= 7);
            long first = unit.getLineMap().getLineNumber(places.getStartPosition(unit, tree));
            long last = unit.getLineMap().getLineNumber(places.getEndPosition(unit, tree));
            holds("11: some sixty lines", tree, last - first < 60);
            if (tree.getReturnType() != null) {
                isType(tree.getReturnType());
            }
            method = tree;
            super.visitMethod(tree, none);
            method = null;
            return null;
        }

        private String within() {
            return method.getName().contentEquals("<init>") ? inside.peek().getSimpleName() + "()" : method.getName().toString();
        }

        private void calls(String name) {
            if (method != null) {
                callsOf.computeIfAbsent(within(), n -> new TreeSet<>()).add(name);
            }
        }

        @Override
        public Void visitMethodInvocation(MethodInvocationTree tree, Void none) {
            Tree what = tree.getMethodSelect();
            calls(what instanceof MemberSelectTree select ? select.getIdentifier().toString() : what.toString());
            return super.visitMethodInvocation(tree, none);
        }

        @Override
        public Void visitMemberSelect(MemberSelectTree tree, Void none) {
            String of = tree.getExpression().toString();
            boolean library = Character.isUpperCase(of.charAt(0)) && !own.contains(of);
            holds("4: the library: " + tree, tree, !library || LIBRARY.contains(tree.toString()));
            return super.visitMemberSelect(tree, none);
        }

        @Override
        public Void visitVariable(VariableTree tree, Void none) {
            isType(tree.getType());
            return super.visitVariable(tree, none);
        }

        private void isType(Tree type) {
            String text = String.valueOf(type);
            holds("3: a type of the list: " + text, type, TYPES.contains(text) || own.contains(text));
        }

        @Override
        public Void visitNewClass(NewClassTree tree, Void none) {
            holds("2: no class without a name", tree, tree.getClassBody() == null);
            isType(tree.getIdentifier());
            madeByConstructor(tree);
            calls(tree.getIdentifier() + "()");
            return super.visitNewClass(tree, none);
        }

        @Override
        public Void visitNewArray(NewArrayTree tree, Void none) {
            holds("3: of one dimension", tree, tree.getDimensions().size() == 1);
            for (Tree length : tree.getDimensions()) {
                holds("7: a length that is a constant", length, length.toString().startsWith("MOST_"));
            }
            madeByConstructor(tree);
            return super.visitNewArray(tree, none);
        }

        private void madeByConstructor(Tree tree) {
            holds("12: made by a constructor or a field", tree, method == null || method.getName().contentEquals("<init>"));
        }

        @Override
        public Void visitForLoop(ForLoopTree tree, Void none) {
            boolean counter = tree.getInitializer().size() == 1 && tree.getUpdate().size() == 1
                && tree.getInitializer().get(0) instanceof VariableTree && tree.getCondition() != null;
            holds("9: a counter against a bound", tree, counter);
            if (counter) {
                String name = ((VariableTree) tree.getInitializer().get(0)).getName().toString();
                String bound = tree.getCondition().toString();
                String update = tree.getUpdate().get(0).toString();
                boolean up = update.startsWith(name + "++") && bound.contains(name + " <");
                boolean down = update.startsWith(name + "--") && bound.contains(name + " >");
                holds("9: it goes towards its bound", tree, (up || down) && !bound.contains("||"));
                holds("9: nothing else moves it", tree, !assigns(tree.getStatement(), name));
            }
            return super.visitForLoop(tree, none);
        }

        private static boolean assigns(StatementTree body, String name) {
            boolean[] found = new boolean[1];
            new TreeScanner<Void, Void>() {
                @Override
                public Void visitAssignment(AssignmentTree tree, Void none) {
                    found[0] |= tree.getVariable().toString().equals(name);
                    return super.visitAssignment(tree, none);
                }
            }.scan(body, null);
            return found[0];
        }

        /** The one such loop there is goes by kept, which its last line makes one more. */
        @Override
        public Void visitWhileLoop(WhileLoopTree tree, Void none) {
            String bound = ((ParenthesizedTree) tree.getCondition()).getExpression().toString();
            String name = bound.split(" ")[0];
            List<? extends StatementTree> body = tree.getStatement() instanceof BlockTree block
                ? block.getStatements() : List.of(tree.getStatement());
            String last = body.isEmpty() ? "" : body.get(body.size() - 1).toString();
            holds("9: a counter against a bound", tree, bound.startsWith(name + " < ") && !bound.contains("||")
                && last.startsWith(name + "++"));
            return super.visitWhileLoop(tree, none);
        }

        @Override
        public Void visitBinary(BinaryTree tree, Void none) {
            boolean divides = tree.getKind() == Tree.Kind.DIVIDE || tree.getKind() == Tree.Kind.REMAINDER;
            holds("7: only nextInTurn divides", tree, !divides || method != null && within().equals("nextInTurn"));
            return super.visitBinary(tree, none);
        }

        @Override
        public Void visitLiteral(LiteralTree tree, Void none) {
            holds("3: no text, no null, no fraction", tree, Set.of(Tree.Kind.INT_LITERAL, Tree.Kind.LONG_LITERAL,
                Tree.Kind.BOOLEAN_LITERAL).contains(tree.getKind()));
            return super.visitLiteral(tree, none);
        }

        @Override
        public Void visitTypeCast(TypeCastTree tree, Void none) {
            never("6: no cast", tree);
            return null;
        }

        @Override
        public Void visitDoWhileLoop(DoWhileLoopTree tree, Void none) {
            never("9: no loop of this kind", tree);
            return null;
        }
    }
}
