import com.sun.source.tree.AssertTree;
import com.sun.source.tree.BinaryTree;
import com.sun.source.tree.ClassTree;
import com.sun.source.tree.CompilationUnitTree;
import com.sun.source.tree.EnhancedForLoopTree;
import com.sun.source.tree.ForLoopTree;
import com.sun.source.tree.IdentifierTree;
import com.sun.source.tree.ImportTree;
import com.sun.source.tree.InstanceOfTree;
import com.sun.source.tree.LambdaExpressionTree;
import com.sun.source.tree.LiteralTree;
import com.sun.source.tree.MemberReferenceTree;
import com.sun.source.tree.MemberSelectTree;
import com.sun.source.tree.MethodInvocationTree;
import com.sun.source.tree.MethodTree;
import com.sun.source.tree.NewArrayTree;
import com.sun.source.tree.NewClassTree;
import com.sun.source.tree.SynchronizedTree;
import com.sun.source.tree.ThrowTree;
import com.sun.source.tree.Tree;
import com.sun.source.tree.TryTree;
import com.sun.source.tree.TypeCastTree;
import com.sun.source.tree.VariableTree;
import com.sun.source.tree.WhileLoopTree;
import com.sun.source.tree.DoWhileLoopTree;
import com.sun.source.util.JavacTask;
import com.sun.source.util.SourcePositions;
import com.sun.source.util.TreePath;
import com.sun.source.util.TreePathScanner;
import com.sun.source.util.Trees;
import java.io.IOException;
import java.nio.file.Files;
import java.nio.file.Path;
import java.util.HashMap;
import java.util.List;
import java.util.Map;
import java.util.Set;
import java.util.TreeMap;
import java.util.TreeSet;
import javax.lang.model.element.Element;
import javax.lang.model.element.ElementKind;
import javax.lang.model.element.ExecutableElement;
import javax.lang.model.element.Modifier;
import javax.lang.model.element.TypeElement;
import javax.lang.model.type.TypeKind;
import javax.lang.model.type.TypeMirror;
import javax.tools.JavaCompiler;
import javax.tools.StandardJavaFileManager;
import javax.tools.ToolProvider;

/**
 * The rules of ../shared/LANGUAGE.md that can be looked at in the source itself. It is stricter than they are where the
 * class needs less: no try, no enum, no text, no cast, and no object made by any call but add (and what is thrown).
 * RulesTest FILE looks at another file (the class in it is to be named TagRounds too).
 */
public final class RulesTest {
    private static final int MOST_PARAMETERS = 7;
    private static final int MOST_LINES = 60;
    private static final int MOST_DEPTH = 8;
    private static final int MOST_CLASSES = 12;
    private static final int MOST_FIELDS = 20;

    private static final Set<String> LIBRARY = Set.of(
        "ArrayList.add", "ArrayList.get", "ArrayList.size",
        "Math.max", "Math.min", "Math.abs", "Math.floorMod", "Math.floorDiv", "Integer.bitCount", "Arrays.fill");
    private static final Set<String> IMPORTS = Set.of("java.util.ArrayList", "java.util.Arrays", "java.util.NoSuchElementException");
    private static final Set<String> THROWN = Set.of("IllegalStateException", "IllegalArgumentException",
        "IndexOutOfBoundsException", "NoSuchElementException");
    private static final Set<TypeKind> PLAIN = Set.of(TypeKind.INT, TypeKind.LONG, TypeKind.BOOLEAN);
    private static final Set<String> KNOWN = Set.of("ArrayList", "Arrays", "Math", "Integer");
    // The divisors that are no written number: each is looked at in the rows ahead of it, or at its place.
    private static final Set<String> GUARDED = Set.of("frame", "many", "ways", "slots");

    private final Trees trees;
    private final CompilationUnitTree unit;
    private final Map<String, Set<String>> calls = new TreeMap<>();
    private final Map<String, Integer> depths = new HashMap<>();
    private int classes;

    private RulesTest(JavacTask task) throws IOException {
        trees = Trees.instance(task);
        unit = task.parse().iterator().next();
        task.analyze();
    }

    private static void holds(int rule, String what, boolean ok) {
        Check.same("rule " + rule + ": " + what, ok, true);
    }

    private long lineOf(Tree t, boolean end) {
        SourcePositions at = trees.getSourcePositions();
        return unit.getLineMap().getLineNumber(end ? at.getEndPosition(unit, t) : at.getStartPosition(unit, t));
    }

    private static boolean isOwn(Element e) {
        return e != null && outermost(e).equals("TagRounds");
    }

    private static String outermost(Element e) {
        Element at = e;
        while (at.getEnclosingElement() != null && at.getEnclosingElement().getKind() != ElementKind.PACKAGE) {
            at = at.getEnclosingElement();
        }
        return at.getSimpleName().toString();
    }

    private static String nameOf(Element e) {
        return e.getEnclosingElement().getSimpleName() + "." + e.getSimpleName();
    }

    private static String keyOf(Element e) {
        return e.getEnclosingElement().getSimpleName() + "." + e;
    }

    private final class Look extends TreePathScanner<Void, Void> {
        private String method = "";
        private boolean inConstructor;
        private boolean inThrow;

        private String here(Tree t) {
            return method + ", line " + lineOf(t, false);
        }

        private TypeMirror typeOf(Tree t) {
            return trees.getTypeMirror(new TreePath(getCurrentPath(), t));
        }

        @Override
        public Void visitImport(ImportTree t, Void v) {
            holds(4, "import " + t.getQualifiedIdentifier(), !t.isStatic() && IMPORTS.contains(t.getQualifiedIdentifier().toString()));
            return null;
        }

        @Override
        public Void visitClass(ClassTree t, Void v) {
            classes++;
            boolean outer = t.getSimpleName().contentEquals("TagRounds");
            String name = "class " + t.getSimpleName();
            holds(2, name + " is no local one", getCurrentPath().getParentPath().getLeaf() instanceof CompilationUnitTree == outer);
            Set<Modifier> flags = t.getModifiers().getFlags();
            holds(2, name + " is static and not public", outer || flags.contains(Modifier.STATIC) && !flags.contains(Modifier.PUBLIC));
            int fields = 0;
            for (Tree m : t.getMembers()) {
                holds(5, name + " has no initialiser block", m.getKind() != Tree.Kind.BLOCK);
                if (m instanceof VariableTree f && !f.getModifiers().getFlags().contains(Modifier.STATIC)) {
                    fields++;
                }
            }
            holds(11, name + " has " + fields + " fields", fields <= MOST_FIELDS);
            return super.visitClass(t, v);
        }

        @Override
        public Void visitMethod(MethodTree t, Void v) {
            ExecutableElement e = (ExecutableElement) trees.getElement(getCurrentPath());
            if (trees.getSourcePositions().getEndPosition(unit, t) < 0) {
                return null; // a constructor that is not written out
            }
            String before = method;
            method = keyOf(e);
            inConstructor = e.getKind() == ElementKind.CONSTRUCTOR;
            calls.computeIfAbsent(method, k -> new TreeSet<>());
            long lines = lineOf(t, true) - lineOf(t, false) + 1;
            holds(11, method + " has " + lines + " lines", lines <= MOST_LINES);
            holds(11, method + " takes " + t.getParameters().size(), t.getParameters().size() <= MOST_PARAMETERS);
            super.visitMethod(t, v);
            method = before;
            inConstructor = false;
            return null;
        }

        @Override
        public Void visitVariable(VariableTree t, Void v) {
            Element e = trees.getElement(getCurrentPath());
            boolean isStatic = e.getKind() == ElementKind.FIELD && e.getModifiers().contains(Modifier.STATIC);
            holds(5, "static " + t.getName() + " is final", !isStatic || e.getModifiers().contains(Modifier.FINAL));
            holds(5, "static " + t.getName() + " is a constant or a row written out",
                !isStatic || PLAIN.contains(e.asType().getKind()) || t.getInitializer() instanceof NewArrayTree);
            String type = e.asType().toString();
            boolean plain = PLAIN.contains(e.asType().getKind()) || type.equals("int[]")
                || type.startsWith("TagRounds.") || type.equals("java.util.ArrayList<TagRounds.Tag>");
            holds(3, here(t) + ": " + t.getName() + " is " + type, plain);
            return super.visitVariable(t, v);
        }

        @Override
        public Void visitMethodInvocation(MethodInvocationTree t, Void v) {
            Element e = trees.getElement(getCurrentPath());
            boolean ofSuper = e.getKind() == ElementKind.CONSTRUCTOR;
            if (isOwn(e)) {
                calls.get(method).add(keyOf(e));
            } else {
                holds(4, here(t) + ": " + nameOf(e), ofSuper || LIBRARY.contains(nameOf(e)));
            }
            return super.visitMethodInvocation(t, v);
        }

        @Override
        public Void visitNewClass(NewClassTree t, Void v) {
            Element e = trees.getElement(getCurrentPath());
            holds(2, here(t) + ": no anonymous class", t.getClassBody() == null);
            if (isOwn(e) && !method.isEmpty()) {
                calls.get(method).add(keyOf(e));
            }
            boolean made = method.isEmpty() || inConstructor || inThrow || method.startsWith("TagRounds.add(");
            holds(12, here(t) + ": makes " + t.getIdentifier(), made);
            return super.visitNewClass(t, v);
        }

        @Override
        public Void visitNewArray(NewArrayTree t, Void v) {
            holds(12, here(t) + ": makes a row", method.isEmpty() || inConstructor);
            return super.visitNewArray(t, v);
        }

        @Override
        public Void visitThrow(ThrowTree t, Void v) {
            holds(6, here(t) + ": no throw in a constructor", !inConstructor);
            boolean fresh = t.getExpression() instanceof NewClassTree n && THROWN.contains(n.getIdentifier().toString());
            holds(6, here(t) + ": " + t.getExpression(), fresh);
            inThrow = true;
            super.visitThrow(t, v);
            inThrow = false;
            return null;
        }

        @Override
        public Void visitBinary(BinaryTree t, Void v) {
            boolean againstNull = t.getRightOperand().getKind() == Tree.Kind.NULL_LITERAL;
            for (Tree side : List.of(t.getLeftOperand(), t.getRightOperand())) {
                holds(10, here(t) + ": numbers alone in " + t, againstNull || PLAIN.contains(typeOf(side).getKind()));
            }
            boolean divides = t.getKind() == Tree.Kind.DIVIDE || t.getKind() == Tree.Kind.REMAINDER;
            boolean byConstant = t.getRightOperand() instanceof LiteralTree;
            boolean guarded = byConstant || GUARDED.contains(t.getRightOperand().toString());
            holds(7, here(t) + ": a divisor that is looked at in " + t, !divides || guarded);
            return super.visitBinary(t, v);
        }

        @Override
        public Void visitForLoop(ForLoopTree t, Void v) {
            holds(9, here(t) + ": a loop with a bound", t.getCondition() != null && t.getUpdate().size() == 1);
            return super.visitForLoop(t, v);
        }

        @Override
        public Void visitEnhancedForLoop(EnhancedForLoopTree t, Void v) {
            holds(12, here(t) + ": by index", false);
            return super.visitEnhancedForLoop(t, v);
        }

        @Override
        public Void visitWhileLoop(WhileLoopTree t, Void v) {
            holds(9, here(t) + ": no while", false);
            return super.visitWhileLoop(t, v);
        }

        @Override
        public Void visitDoWhileLoop(DoWhileLoopTree t, Void v) {
            holds(9, here(t) + ": no do", false);
            return super.visitDoWhileLoop(t, v);
        }

        @Override
        public Void visitLambdaExpression(LambdaExpressionTree t, Void v) {
            holds(2, here(t) + ": no lambda", false);
            return super.visitLambdaExpression(t, v);
        }

        @Override
        public Void visitMemberReference(MemberReferenceTree t, Void v) {
            holds(2, here(t) + ": no method reference", false);
            return super.visitMemberReference(t, v);
        }

        @Override
        public Void visitTry(TryTree t, Void v) {
            holds(6, here(t) + ": no try", false);
            return super.visitTry(t, v);
        }

        @Override
        public Void visitSynchronized(SynchronizedTree t, Void v) {
            holds(6, here(t) + ": no synchronized", false);
            return super.visitSynchronized(t, v);
        }

        @Override
        public Void visitAssert(AssertTree t, Void v) {
            holds(6, here(t) + ": no assert", false);
            return super.visitAssert(t, v);
        }

        @Override
        public Void visitInstanceOf(InstanceOfTree t, Void v) {
            holds(6, here(t) + ": no instanceof", false);
            return super.visitInstanceOf(t, v);
        }

        @Override
        public Void visitTypeCast(TypeCastTree t, Void v) {
            holds(6, here(t) + ": a cast of numbers", PLAIN.contains(typeOf(t.getExpression()).getKind()));
            return super.visitTypeCast(t, v);
        }

        @Override
        public Void visitLiteral(LiteralTree t, Void v) {
            holds(3, here(t) + ": no text", t.getKind() != Tree.Kind.STRING_LITERAL);
            return super.visitLiteral(t, v);
        }

        @Override
        public Void visitMemberSelect(MemberSelectTree t, Void v) {
            Element e = trees.getElement(getCurrentPath());
            boolean ownOrCall = e == null || isOwn(e) || e.getKind() == ElementKind.METHOD || t.getIdentifier().contentEquals("length");
            holds(4, here(t) + ": " + t, ownOrCall);
            return super.visitMemberSelect(t, v);
        }

        @Override
        public Void visitIdentifier(IdentifierTree t, Void v) {
            Element e = trees.getElement(getCurrentPath());
            boolean foreign = e instanceof TypeElement && !isOwn(e);
            boolean listed = foreign && (KNOWN.contains(e.getSimpleName().toString()) || THROWN.contains(e.getSimpleName().toString()));
            holds(4, here(t) + ": " + t, !foreign || listed);
            return super.visitIdentifier(t, v);
        }
    }

    // How many calls stand open at most below this one, itself counted; a call that comes back to itself is a fault.
    private int depthOf(String key, Set<String> open) {
        if (depths.containsKey(key)) {
            return depths.get(key);
        }
        if (!open.add(key)) {
            holds(8, key + " calls itself", false);
            return 1;
        }
        int deepest = 0;
        for (String called : calls.getOrDefault(key, Set.of())) {
            deepest = Math.max(deepest, depthOf(called, open));
        }
        open.remove(key);
        depths.put(key, deepest + 1);
        return deepest + 1;
    }

    private void look() {
        holds(1, "no package line", unit.getPackageName() == null);
        holds(1, "one class in the file", unit.getTypeDecls().size() == 1);
        new Look().scan(unit, null);
        holds(11, classes + " classes", classes <= MOST_CLASSES);
        for (String key : calls.keySet()) {
            int depth = depthOf(key, new TreeSet<>());
            holds(11, key + " goes " + depth + " deep", depth <= MOST_DEPTH);
        }
    }

    public static void main(String[] args) throws IOException {
        Path file = Path.of(args.length > 0 ? args[0] : "src/main/java/TagRounds.java");
        for (char c : Files.readString(file).toCharArray()) {
            if (c >= 128) {
                holds(4, "a sign above 127", false);
            }
        }
        JavaCompiler compiler = ToolProvider.getSystemJavaCompiler();
        try (StandardJavaFileManager files = compiler.getStandardFileManager(null, null, null)) {
            Path out = Files.createTempDirectory("rules");
            JavacTask task = (JavacTask) compiler.getTask(null, files, null, List.of("-d", out.toString(), "-proc:none"), null, files.getJavaFileObjects(file));
            new RulesTest(task).look();
            Files.delete(out);
        }
        Check.end("RulesTest");
    }
}
