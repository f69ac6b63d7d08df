import com.sun.source.tree.BinaryTree;
import com.sun.source.tree.ClassTree;
import com.sun.source.tree.CompoundAssignmentTree;
import com.sun.source.tree.ForLoopTree;
import com.sun.source.tree.IdentifierTree;
import com.sun.source.tree.MemberSelectTree;
import com.sun.source.tree.MethodInvocationTree;
import com.sun.source.tree.MethodTree;
import com.sun.source.tree.NewArrayTree;
import com.sun.source.tree.NewClassTree;
import com.sun.source.tree.Tree;
import com.sun.source.tree.VariableTree;
import com.sun.source.util.TreePath;
import com.sun.source.util.TreePathScanner;
import java.util.EnumSet;
import java.util.HashMap;
import java.util.HashSet;
import java.util.Map;
import java.util.Set;
import java.util.TreeMap;
import java.util.TreeSet;
import javax.lang.model.element.Element;
import javax.lang.model.element.ElementKind;
import javax.lang.model.element.Modifier;
import javax.lang.model.element.TypeElement;

/** Rules of LANGUAGE.md that are seen in the program's tree: what it calls, makes and holds, and how deep it goes. */
public final class RulesTest extends TreePathScanner<Void, Void> {
    private static final int MOST_LINES = 60;
    private static final int MOST_DEEP = 8;

    private static final Set<Tree.Kind> LEFT_OUT = EnumSet.of(Tree.Kind.LAMBDA_EXPRESSION, Tree.Kind.MEMBER_REFERENCE,
        Tree.Kind.THROW, Tree.Kind.TRY, Tree.Kind.SYNCHRONIZED, Tree.Kind.ASSERT, Tree.Kind.ANNOTATION,
        Tree.Kind.SWITCH_EXPRESSION, Tree.Kind.ANNOTATION_TYPE);

    private static final Set<String> LIBRARY = Set.of("java.util.Arrays.fill", "java.util.Arrays.copyOf",
        "java.util.Arrays.copyOfRange", "java.lang.System.arraycopy");

    private static final Set<String> STATIC_TYPES = Set.of("int", "long", "boolean", "char", "java.lang.String", "int[]",
        "long[]", "char[]", "byte[]");

    private static final Check CHECK = new Check();

    private final Source source;
    private final Map<Element, Set<Element>> calls = new HashMap<>();
    private Element method;

    private RulesTest(Source source) {
        this.source = source;
    }

    public static void main(String[] args) throws Exception {
        RulesTest rules = new RulesTest(Source.read());
        rules.scan(rules.source.unit, null);
        rules.depths();
        CHECK.holds("the calls of the program were seen", rules.calls.size() > 20);
        CHECK.end();
    }

    private Element element(Tree tree) {
        return source.trees.getElement(TreePath.getPath(source.unit, tree));
    }

    private String place(Tree tree) {
        long start = source.trees.getSourcePositions().getStartPosition(source.unit, tree);
        return " in line " + source.unit.getLineMap().getLineNumber(start);
    }

    @Override
    public Void scan(Tree tree, Void nothing) {
        if (tree != null) {
            CHECK.holds("rules 2 and 6: no " + tree.getKind() + place(tree), !LEFT_OUT.contains(tree.getKind()));
        }
        return super.scan(tree, nothing);
    }

    @Override
    public Void visitClass(ClassTree tree, Void nothing) {
        boolean inside = getCurrentPath().getParentPath().getLeaf().getKind() == Tree.Kind.CLASS;
        Set<Modifier> modifiers = tree.getModifiers().getFlags();
        CHECK.holds("rules 1 and 2: public or static, in the file or in a class" + place(tree),
            inside ? modifiers.contains(Modifier.STATIC) && !modifiers.contains(Modifier.PUBLIC)
                : modifiers.contains(Modifier.PUBLIC) && modifiers.contains(Modifier.FINAL));
        for (Tree member : tree.getMembers()) {
            CHECK.holds("rule 5: no initialiser block" + place(member), member.getKind() != Tree.Kind.BLOCK);
        }
        return super.visitClass(tree, nothing);
    }

    @Override
    public Void visitMethod(MethodTree tree, Void nothing) {
        method = element(tree);
        calls.put(method, new HashSet<>());
        long start = source.trees.getSourcePositions().getStartPosition(source.unit, tree);
        long end = source.trees.getSourcePositions().getEndPosition(source.unit, tree);
        if (end >= 0) {
            long lines = source.unit.getLineMap().getLineNumber(end) - source.unit.getLineMap().getLineNumber(start) + 1;
            CHECK.holds("rule 11: " + method + " has " + lines + " lines", lines <= MOST_LINES);
        }
        CHECK.holds("rule 11: the parameters of " + method, tree.getParameters().size() <= 7);
        super.visitMethod(tree, nothing);
        method = null;
        return nothing;
    }

    @Override
    public Void visitVariable(VariableTree tree, Void nothing) {
        Element variable = element(tree);
        if (variable.getKind() == ElementKind.FIELD && variable.getModifiers().contains(Modifier.STATIC)) {
            CHECK.holds("rule 5: " + variable + " is final", variable.getModifiers().contains(Modifier.FINAL));
            CHECK.holds("rule 5: the type of " + variable, STATIC_TYPES.contains(variable.asType().toString()));
        }
        return super.visitVariable(tree, nothing);
    }

    @Override
    public Void visitMethodInvocation(MethodInvocationTree tree, Void nothing) {
        Element called = element(tree.getMethodSelect());
        if (isOwn(called)) {
            if (method != null) {
                calls.get(method).add(called);
            }
        } else if (called.getKind() != ElementKind.CONSTRUCTOR) {
            String name = ((TypeElement) called.getEnclosingElement()).getQualifiedName() + "." + called.getSimpleName();
            CHECK.holds("rule 4: " + name + place(tree), LIBRARY.contains(name));
        }
        return super.visitMethodInvocation(tree, nothing);
    }

    private static boolean isOwn(Element element) {
        Element owner = element;
        while (owner.getEnclosingElement() != null && owner.getEnclosingElement().getKind() != ElementKind.PACKAGE) {
            owner = owner.getEnclosingElement();
        }
        return owner.getSimpleName().contentEquals("JoinKeeper");
    }

    /** Stricter than rule 12, but so the room of a run does not grow with its calls. */
    private void made(Tree tree) {
        CHECK.holds("rule 12: made in a constructor or with a field" + place(tree),
            method == null || method.getKind() == ElementKind.CONSTRUCTOR);
    }

    @Override
    public Void visitNewClass(NewClassTree tree, Void nothing) {
        made(tree);
        CHECK.holds("rule 2: no class without a name" + place(tree), tree.getClassBody() == null);
        CHECK.holds("rule 3: an object of its own" + place(tree), isOwn(element(tree)));
        return super.visitNewClass(tree, nothing);
    }

    @Override
    public Void visitNewArray(NewArrayTree tree, Void nothing) {
        made(tree);
        return super.visitNewArray(tree, nothing);
    }

    @Override
    public Void visitForLoop(ForLoopTree tree, Void nothing) {
        CHECK.holds("rule 9: a for with a bound and a step" + place(tree),
            tree.getCondition() != null && !tree.getUpdate().isEmpty());
        return super.visitForLoop(tree, nothing);
    }

    @Override
    public Void visitBinary(BinaryTree tree, Void nothing) {
        String type = source.trees.getTypeMirror(getCurrentPath()).toString();
        CHECK.holds("rule 10: no text joined by +" + place(tree), !type.equals("java.lang.String"));
        return super.visitBinary(tree, nothing);
    }

    @Override
    public Void visitCompoundAssignment(CompoundAssignmentTree tree, Void nothing) {
        String type = source.trees.getTypeMirror(getCurrentPath()).toString();
        CHECK.holds("rule 10: no text joined by +=" + place(tree), !type.equals("java.lang.String"));
        return super.visitCompoundAssignment(tree, nothing);
    }

    @Override
    public Void visitIdentifier(IdentifierTree tree, Void nothing) {
        named(element(tree), tree);
        return super.visitIdentifier(tree, nothing);
    }

    @Override
    public Void visitMemberSelect(MemberSelectTree tree, Void nothing) {
        if (getCurrentPath().getParentPath().getLeaf().getKind() != Tree.Kind.IMPORT) {
            named(element(tree), tree);
        }
        return super.visitMemberSelect(tree, nothing);
    }

    private void named(Element element, Tree tree) {
        if (element instanceof TypeElement type) {
            String name = type.getQualifiedName().toString();
            CHECK.holds("rules 3 and 4: " + name + place(tree),
                isOwn(element) || Set.of("java.util.Arrays", "java.lang.System").contains(name));
        }
    }

    /** Rule 11: methods that call one another count once, the way from call to call is the longest there is. */
    private void depths() {
        Map<Element, Set<Element>> reached = new HashMap<>();
        calls.keySet().forEach(from -> reached.put(from, reachedFrom(from)));
        Map<String, Integer> deep = new TreeMap<>();
        for (Element from : calls.keySet()) {
            if (from.getModifiers().contains(Modifier.PUBLIC)) {
                deep.put(from.toString(), depth(from, reached));
            }
        }
        deep.forEach((name, depth) -> CHECK.holds("rule 11: " + name + " goes " + depth + " deep", depth <= MOST_DEEP));
        Set<String> recursive = new TreeSet<>();
        reached.forEach((from, to) -> {
            if (to.contains(from)) {
                recursive.add(from.getSimpleName().toString());
                CHECK.holds("rule 8: " + from + " is private", from.getModifiers().contains(Modifier.PRIVATE));
                CHECK.holds("rule 8: " + from + " carries its level", from.toString().endsWith(",int)"));
            }
        });
        CHECK.holds("rule 8: only the reading methods call one another: " + recursive,
            recursive.stream().allMatch(name -> name.startsWith("read")));
    }

    private Set<Element> reachedFrom(Element from) {
        Set<Element> reached = new HashSet<>();
        Set<Element> latest = new HashSet<>(calls.get(from));
        while (reached.addAll(latest)) {
            Set<Element> next = new HashSet<>();
            latest.forEach(called -> next.addAll(calls.get(called)));
            latest = next;
        }
        return reached;
    }

    private int depth(Element from, Map<Element, Set<Element>> reached) {
        Set<Element> circle = new HashSet<>(Set.of(from));
        for (Element to : reached.get(from)) {
            if (reached.get(to).contains(from)) {
                circle.add(to);
            }
        }
        int deepest = 0;
        for (Element inside : circle) {
            for (Element called : calls.get(inside)) {
                if (!circle.contains(called)) {
                    deepest = Math.max(deepest, depth(called, reached));
                }
            }
        }
        return deepest + 1;
    }
}
