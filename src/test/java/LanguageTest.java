import com.sun.source.tree.AssertTree;
import com.sun.source.tree.BinaryTree;
import com.sun.source.tree.CatchTree;
import com.sun.source.tree.ClassTree;
import com.sun.source.tree.CompilationUnitTree;
import com.sun.source.tree.CompoundAssignmentTree;
import com.sun.source.tree.ExpressionTree;
import com.sun.source.tree.LambdaExpressionTree;
import com.sun.source.tree.LiteralTree;
import com.sun.source.tree.MemberReferenceTree;
import com.sun.source.tree.MethodInvocationTree;
import com.sun.source.tree.MethodTree;
import com.sun.source.tree.NewClassTree;
import com.sun.source.tree.SynchronizedTree;
import com.sun.source.tree.ThrowTree;
import com.sun.source.tree.Tree;
import com.sun.source.tree.TryTree;
import com.sun.source.tree.VariableTree;
import com.sun.source.util.JavacTask;
import com.sun.source.util.TreePath;
import com.sun.source.util.TreePathScanner;
import com.sun.source.util.Trees;
import java.io.IOException;
import java.nio.file.Files;
import java.nio.file.Path;
import java.util.HashMap;
import java.util.HashSet;
import java.util.List;
import java.util.Map;
import java.util.Set;
import java.util.TreeMap;
import java.util.TreeSet;
import java.util.regex.Pattern;
import javax.lang.model.element.Element;
import javax.lang.model.element.ElementKind;
import javax.lang.model.element.ExecutableElement;
import javax.lang.model.element.Modifier;
import javax.lang.model.element.TypeElement;
import javax.lang.model.type.TypeKind;
import javax.lang.model.type.TypeMirror;
import javax.tools.JavaCompiler;
import javax.tools.StandardJavaFileManager;
import javax.tools.ToolProvider;

/**
 * What a compiler's tree of the class shows of LANGUAGE.md: each fault is told with its line and its rule. With an
 * argument it looks at another source, which must hold a class of the same name.
 */
public final class LanguageTest extends TreePathScanner<Void, Void> {
    private static final String FACE = "NineOnGrass";
    /** Rule 4, as far as the class has use of it: what is new here is looked up there first. */
    private static final Pattern LIBRARY = Pattern.compile("java\\.lang\\.(String\\.(length|charAt|isEmpty|equals|substring"
            + "|toCharArray)|Math\\.(max|min|abs|floorDiv|floorMod)|Integer\\.(compare|max|min|bitCount)"
            + "|Long\\.(compare|max|min|bitCount)|System\\.arraycopy)|java\\.util\\.Arrays\\.(copyOf|copyOfRange|fill)");
    private static final Pattern EXCEPTIONS = Pattern.compile("java\\.lang\\.(IllegalState|IllegalArgument"
            + "|IndexOutOfBounds|Arithmetic|UnsupportedOperation|Runtime)Exception|java\\.util\\.NoSuchElementException");
    private static final Pattern TYPES = Pattern.compile("void|(int|long|short|byte|char|boolean)(\\[\\]){0,2}"
            + "|java\\.lang\\.(String|StringBuilder)|NineOnGrass(\\.[A-Za-z]+)?(\\[\\])?");
    private static final Pattern CONSTANTS = Pattern.compile("int|long|boolean|char|java\\.lang\\.String"
            + "|(int|long|char|byte)\\[\\]");
    private static final int MOST_DEEP = 8;

    private final Trees trees;
    private final CompilationUnitTree unit;
    private final Map<Element, Set<Element>> calls = new HashMap<>();
    private final Set<String> open = new HashSet<>();
    private final Map<String, Integer> fieldsOf = new TreeMap<>();
    private int classes = 0;
    private int looked = 0;
    private int wrong = 0;

    private LanguageTest(Trees trees, CompilationUnitTree unit) {
        this.trees = trees;
        this.unit = unit;
    }

    public static void main(String[] args) throws IOException {
        Path source = Path.of(args.length > 0 ? args[0] : "src/main/java/NineOnGrass.java");
        JavaCompiler compiler = ToolProvider.getSystemJavaCompiler();
        StandardJavaFileManager files = compiler.getStandardFileManager(null, null, null);
        JavacTask task = (JavacTask) compiler.getTask(null, files, null, List.of("-proc:none"), null,
                files.getJavaFileObjects(source));
        CompilationUnitTree unit = task.parse().iterator().next();
        task.analyze();
        LanguageTest test = new LanguageTest(Trees.instance(task), unit);
        test.signs(Files.readString(source));
        test.all();
        System.out.println(test.looked + " parts of the class looked at, " + test.wrong + " outside the language");
        if (test.wrong != 0) {
            System.exit(1);
        }
    }

    private void all() {
        must(unit.getPackageName() == null, unit, "1: a package");
        must(unit.getTypeDecls().size() == 1, unit, "1: more than one class in the file");
        openNames();
        scan(unit, null);
        must(classes <= 12, unit, "11: so many classes: " + classes);
        for (Map.Entry<String, Integer> e : fieldsOf.entrySet()) {
            must(e.getValue() <= 20, unit, "11: so many fields: " + e);
        }
        for (Element from : calls.keySet()) {
            deep(from, new HashSet<>(), 1);
        }
    }

    private void signs(String text) {
        for (char c : text.toCharArray()) {
            must(c == '\n' || c >= 32 && c < 127, unit, "3: a sign " + (int) c);
        }
    }

    private void openNames() {
        TypeElement face = (TypeElement) trees.getElement(new TreePath(new TreePath(unit), unit.getTypeDecls().get(0)));
        must(face.getQualifiedName().contentEquals(FACE), unit, "1: another class");
        for (Element e : face.getEnclosedElements()) {
            if (e.getModifiers().contains(Modifier.PUBLIC)) {
                open.add(e.getSimpleName().toString());
            }
        }
    }

    private void must(boolean holds, Tree at, String what) {
        looked++;
        if (!holds) {
            wrong++;
            long place = trees.getSourcePositions().getStartPosition(unit, at);
            System.out.println("line " + unit.getLineMap().getLineNumber(Math.max(0, place)) + ": rule " + what);
        }
    }

    private TypeMirror typeOf(Tree tree) {
        return trees.getTypeMirror(new TreePath(getCurrentPath(), tree));
    }

    private static boolean inFace(Element e) {
        Element outer = e;
        while (outer.getEnclosingElement() != null && outer.getEnclosingElement().getKind() != ElementKind.PACKAGE) {
            outer = outer.getEnclosingElement();
        }
        return outer.getSimpleName().contentEquals(FACE);
    }

    private static String fullName(Element method) {
        return ((TypeElement) method.getEnclosingElement()).getQualifiedName() + "." + method.getSimpleName();
    }

    /** The method in whose body the tree stands; null in a field's initialiser. */
    private MethodTree around() {
        for (TreePath p = getCurrentPath(); p != null; p = p.getParentPath()) {
            if (p.getLeaf() instanceof MethodTree) {
                return (MethodTree) p.getLeaf();
            }
        }
        return null;
    }

    @Override
    public Void visitClass(ClassTree tree, Void none) {
        classes++;
        Element e = trees.getElement(getCurrentPath());
        Set<Modifier> has = e.getModifiers();
        boolean face = e.getEnclosingElement().getKind() == ElementKind.PACKAGE;
        must(!face || has.contains(Modifier.PUBLIC) && has.contains(Modifier.FINAL), tree, "1: public and final");
        must(face || has.contains(Modifier.STATIC), tree, "1: a class inside that isn't static");
        must(face || !has.contains(Modifier.PUBLIC) && !has.contains(Modifier.PROTECTED), tree, "1: an open class inside");
        must(face || e.getEnclosingElement().getSimpleName().contentEquals(FACE), tree, "2: a class inside another");
        for (Tree member : tree.getMembers()) {
            must(member.getKind() != Tree.Kind.BLOCK, member, "5: an initialiser block");
        }
        return super.visitClass(tree, none);
    }

    @Override
    public Void visitMethod(MethodTree tree, Void none) {
        Element e = trees.getElement(getCurrentPath());
        Set<Modifier> has = e.getModifiers();
        String name = e.getSimpleName().toString();
        boolean inside = e.getEnclosingElement().getSimpleName().contentEquals(FACE);
        must(has.contains(Modifier.PUBLIC) || has.contains(Modifier.PRIVATE) || !inside, tree, "1: neither public nor private");
        must(!has.contains(Modifier.PRIVATE) || e.getKind() == ElementKind.CONSTRUCTOR || !open.contains(name), tree,
                "1: a private method named as a public one: " + name);
        must(!has.contains(Modifier.SYNCHRONIZED) && !has.contains(Modifier.NATIVE), tree, "6: synchronized or native");
        must(!List.of("equals", "hashCode", "toString").contains(name), tree, "6: " + name);
        must(tree.getParameters().size() <= 7, tree, "11: so many parameters");
        must(lineAfter(tree) - lineOf(tree) < 60, tree, "11: so many lines: " + (lineAfter(tree) - lineOf(tree)));
        calls.computeIfAbsent(e, k -> new HashSet<>());
        return super.visitMethod(tree, none);
    }

    private long lineOf(Tree tree) {
        return unit.getLineMap().getLineNumber(trees.getSourcePositions().getStartPosition(unit, tree));
    }

    private long lineAfter(Tree tree) {
        long end = trees.getSourcePositions().getEndPosition(unit, tree);
        return end < 0 ? lineOf(tree) : unit.getLineMap().getLineNumber(end);
    }

    @Override
    public Void visitVariable(VariableTree tree, Void none) {
        Element e = trees.getElement(getCurrentPath());
        String type = e.asType().toString();
        must(TYPES.matcher(type).matches(), tree, "3: a type " + type);
        if (e.getKind() == ElementKind.FIELD) {
            Set<Modifier> has = e.getModifiers();
            String owner = e.getEnclosingElement().toString();
            boolean constant = has.contains(Modifier.STATIC);
            fieldsOf.merge(owner, constant ? 0 : 1, Integer::sum);
            must(!constant || has.contains(Modifier.FINAL), tree, "5: static and not final");
            must(!constant || CONSTANTS.matcher(type).matches(), tree, "5: a static field of type " + type);
            must(!constant || !type.endsWith("]") || tree.getInitializer().toString().startsWith("{"), tree,
                    "5: a static array that isn't written out");
            must(!owner.equals(FACE) || has.contains(Modifier.PRIVATE) || e.getSimpleName().contentEquals("NONE"), tree,
                    "1: an open field");
        }
        return super.visitVariable(tree, none);
    }

    @Override
    public Void visitMethodInvocation(MethodInvocationTree tree, Void none) {
        Element called = trees.getElement(getCurrentPath());
        callTo(called);
        if (!inFace(called)) {
            boolean copy = called.getSimpleName().contentEquals("clone");
            must(copy || called.getKind() == ElementKind.CONSTRUCTOR || LIBRARY.matcher(fullName(called)).matches(), tree,
                    "4: the library's " + fullName(called));
            for (ExpressionTree given : tree.getArguments()) {
                TypeKind kind = typeOf(given).getKind();
                must(kind != TypeKind.DOUBLE && kind != TypeKind.FLOAT, tree, "3: the library over doubles");
            }
        }
        return super.visitMethodInvocation(tree, none);
    }

    @Override
    public Void visitNewClass(NewClassTree tree, Void none) {
        Element made = trees.getElement(getCurrentPath());
        callTo(made);
        String type = ((TypeElement) made.getEnclosingElement()).getQualifiedName().toString();
        boolean thrown = getCurrentPath().getParentPath().getLeaf() instanceof ThrowTree;
        must(inFace(made) || thrown && EXCEPTIONS.matcher(type).matches(), tree, "4: new " + type);
        return super.visitNewClass(tree, none);
    }

    private void callTo(Element called) {
        MethodTree from = around();
        if (from != null && called instanceof ExecutableElement && inFace(called)) {
            Element caller = trees.getElement(trees.getPath(unit, from));
            calls.computeIfAbsent(caller, k -> new HashSet<>()).add(called);
        }
    }

    /** No recursion, and calls no deeper than rule 11 says; a constructor's field initialisers count as its own. */
    private void deep(Element at, Set<Element> path, int depth) {
        if (!path.add(at)) {
            must(false, unit, "8: a recursion by " + at);
            return;
        }
        if (depth > MOST_DEEP) {
            must(false, unit, "11: calls so deep: " + new TreeSet<>(path.stream().map(Element::toString).toList()));
        } else {
            for (Element next : calls.getOrDefault(at, Set.of())) {
                deep(next, path, depth + 1);
            }
        }
        path.remove(at);
    }

    @Override
    public Void visitThrow(ThrowTree tree, Void none) {
        must(tree.getExpression() instanceof NewClassTree, tree, "6: throw of what isn't new");
        if (tree.getExpression() instanceof NewClassTree) {
            List<? extends ExpressionTree> given = ((NewClassTree) tree.getExpression()).getArguments();
            must(given.isEmpty() || given.size() == 1 && given.get(0).getKind() == Tree.Kind.STRING_LITERAL, tree,
                    "6: an exception without a written text");
        }
        MethodTree from = around();
        must(from != null && !from.getName().contentEquals("<init>"), tree, "6: a throw in a constructor");
        return super.visitThrow(tree, none);
    }

    @Override
    public Void visitTry(TryTree tree, Void none) {
        must(tree.getFinallyBlock() == null && tree.getResources().isEmpty(), tree, "6: finally, or resources");
        return super.visitTry(tree, none);
    }

    @Override
    public Void visitCatch(CatchTree tree, Void none) {
        // What the machine throws may not be caught, nor a class above it: none of the class's calls needs a catch.
        must(false, tree, "6: a catch");
        return super.visitCatch(tree, none);
    }

    @Override
    public Void visitBinary(BinaryTree tree, Void none) {
        boolean texts = isText(tree.getLeftOperand()) || isText(tree.getRightOperand());
        must(tree.getKind() != Tree.Kind.PLUS || !texts, tree, "10: texts joined by +");
        must(tree.getKind() != Tree.Kind.EQUAL_TO && tree.getKind() != Tree.Kind.NOT_EQUAL_TO || !texts, tree,
                "6: == between texts");
        return super.visitBinary(tree, none);
    }

    @Override
    public Void visitCompoundAssignment(CompoundAssignmentTree tree, Void none) {
        must(!isText(tree.getVariable()), tree, "10: texts joined by +");
        return super.visitCompoundAssignment(tree, none);
    }

    private boolean isText(Tree tree) {
        TypeMirror type = typeOf(tree);
        return type != null && type.toString().equals("java.lang.String");
    }

    @Override
    public Void visitLiteral(LiteralTree tree, Void none) {
        if (tree.getValue() instanceof String) {
            for (char c : ((String) tree.getValue()).toCharArray()) {
                must(c >= 1 && c <= 127, tree, "4: a text's sign " + (int) c);
            }
        }
        return super.visitLiteral(tree, none);
    }

    @Override
    public Void visitLambdaExpression(LambdaExpressionTree tree, Void none) {
        must(false, tree, "2: a lambda");
        return super.visitLambdaExpression(tree, none);
    }

    @Override
    public Void visitMemberReference(MemberReferenceTree tree, Void none) {
        must(false, tree, "2: a method reference");
        return super.visitMemberReference(tree, none);
    }

    @Override
    public Void visitSynchronized(SynchronizedTree tree, Void none) {
        must(false, tree, "6: synchronized");
        return super.visitSynchronized(tree, none);
    }

    @Override
    public Void visitAssert(AssertTree tree, Void none) {
        must(false, tree, "6: assert");
        return super.visitAssert(tree, none);
    }
}
