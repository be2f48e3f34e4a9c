import com.sun.source.tree.ArrayAccessTree;
import com.sun.source.tree.AssertTree;
import com.sun.source.tree.AssignmentTree;
import com.sun.source.tree.BinaryTree;
import com.sun.source.tree.BlockTree;
import com.sun.source.tree.CaseTree;
import com.sun.source.tree.ClassTree;
import com.sun.source.tree.CompilationUnitTree;
import com.sun.source.tree.CompoundAssignmentTree;
import com.sun.source.tree.DoWhileLoopTree;
import com.sun.source.tree.EnhancedForLoopTree;
import com.sun.source.tree.ExpressionTree;
import com.sun.source.tree.ForLoopTree;
import com.sun.source.tree.IdentifierTree;
import com.sun.source.tree.ImportTree;
import com.sun.source.tree.InstanceOfTree;
import com.sun.source.tree.LambdaExpressionTree;
import com.sun.source.tree.LiteralTree;
import com.sun.source.tree.MemberReferenceTree;
import com.sun.source.tree.MemberSelectTree;
import com.sun.source.tree.MethodInvocationTree;
import com.sun.source.tree.MethodTree;
import com.sun.source.tree.NewArrayTree;
import com.sun.source.tree.NewClassTree;
import com.sun.source.tree.SynchronizedTree;
import com.sun.source.tree.ThrowTree;
import com.sun.source.tree.Tree;
import com.sun.source.tree.TryTree;
import com.sun.source.tree.TypeCastTree;
import com.sun.source.tree.UnaryTree;
import com.sun.source.tree.VariableTree;
import com.sun.source.tree.WhileLoopTree;
import com.sun.source.util.JavacTask;
import com.sun.source.util.TreePath;
import com.sun.source.util.TreePathScanner;
import com.sun.source.util.TreeScanner;
import com.sun.source.util.Trees;
import java.nio.file.Files;
import java.nio.file.Path;
import java.util.ArrayList;
import java.util.HashMap;
import java.util.HashSet;
import java.util.LinkedHashMap;
import java.util.LinkedHashSet;
import java.util.List;
import java.util.Map;
import java.util.Set;
import java.util.TreeSet;
import java.util.regex.Matcher;
import java.util.regex.Pattern;
import javax.lang.model.element.Element;
import javax.lang.model.element.ElementKind;
import javax.lang.model.element.Modifier;
import javax.lang.model.element.TypeElement;
import javax.lang.model.type.ArrayType;
import javax.lang.model.type.TypeKind;
import javax.lang.model.type.TypeMirror;
import javax.tools.JavaCompiler;
import javax.tools.StandardJavaFileManager;
import javax.tools.ToolProvider;

/**
 * The rules of LANGUAGE.md, each by itself, on the tree that the compiler makes of the program. What can't be seen there (rule 7: no call
 * throws or fails to end) is WildTest's. An argument tells another file than the program, so that the test can be tried on broken ones.
 */
public final class LanguageTest {
    private static final Set<String> BARE = Set.of("int", "long", "short", "byte", "char", "boolean", "void");
    private static final Set<String> LENT = Set.of("java.lang.String", "java.lang.StringBuilder", "java.lang.Integer");
    private static final Set<String> LISTS = Set.of("java.util.ArrayList", "java.util.List");
    private static final Set<String> LIBRARY = Set.of(
        "java.lang.String.length", "java.lang.String.charAt", "java.lang.String.isEmpty", "java.lang.String.equals",
        "java.lang.String.indexOf", "java.lang.String.substring", "java.lang.String.toCharArray",
        "java.lang.StringBuilder.append", "java.lang.StringBuilder.charAt", "java.lang.StringBuilder.setCharAt",
        "java.lang.StringBuilder.setLength", "java.lang.StringBuilder.deleteCharAt", "java.lang.StringBuilder.reverse",
        "java.lang.StringBuilder.length", "java.lang.StringBuilder.toString",
        "java.util.List.add", "java.util.List.get", "java.util.List.set", "java.util.List.remove", "java.util.List.size",
        "java.util.List.isEmpty", "java.util.List.clear", "java.util.List.of",
        "java.util.ArrayList.add", "java.util.ArrayList.get", "java.util.ArrayList.set", "java.util.ArrayList.remove",
        "java.util.ArrayList.size", "java.util.ArrayList.isEmpty", "java.util.ArrayList.clear",
        "java.lang.System.arraycopy", "java.util.Arrays.copyOf", "java.util.Arrays.copyOfRange", "java.util.Arrays.fill");
    private static final Set<String> SUMS = Set.of("java.lang.Integer", "java.lang.Long", "java.lang.Math");
    private static final String OUTER = "StrikeOut";

    /** The face as the document has it. */
    private static final List<String> FACE = List.of(
        "public final class StrikeOut {",
        "public static final int NONE = -1;",
        "public StrikeOut();",
        "public boolean day(int d);",
        "public int feed(int a, int b, int c, int d, int e);",
        "public int blank(int n);",
        "public int deed(int i, int n);",
        "public int law(int n);",
        "public int left(int b, int place, int what);",
        "public int may(int b, int place, int clerk, int what);",
        "public int strike(int b, int place, int n, int clerk);",
        "public int back(int b);",
        "public int book(int i, int what);",
        "public long ways(int b, int i);",
        "public int cheapest(int b, int i, int clerk, int what);",
        "public int done(int b, int i, int clerk);",
        "public int strokes(int b, int i, int w);",
        "public long even(int b, int i, int w);",
        "public int hidden(int deeds, int what);",
        "public int shortest(int deeds, int what);",
        "public long shortestMany(int deeds);",
        "public int bound(int deeds);",
        "public int forged(int i);",
        "public long spare(int b, int deeds);",
        "public int dayEnd(int deeds, int what);",
        "public int worth(int b, int deeds, int what);",
        "public int family(int b, int deeds, int w, int what);",
        "public int chain(int b, int what);",
        "public boolean seed(int x);",
        "public int draw(int b, int n);",
        "public int check(int b, int n);",
        "public int count(int what);");

    private static int wrong = 0;
    private static int looked = 0;
    private static String rule = "";

    private static String source = "";
    private static CompilationUnitTree unit;
    private static Trees trees;
    /** Every node of one kind with the way to it. */
    private static final Map<Tree, TreePath> ways = new LinkedHashMap<>();
    private static final Map<Element, MethodTree> methods = new LinkedHashMap<>();
    private static final Map<Element, Set<Element>> calls = new LinkedHashMap<>();

    private static void rule(int number) { rule = "rule " + number; }

    private static void must(boolean holds, String what) {
        looked++;
        if (!holds) {
            wrong++;
            System.out.println("[" + rule + "] not so: " + what);
        }
    }

    // ---- the tree ----

    private static void read(Path path) throws Exception {
        source = Files.readString(path);
        JavaCompiler compiler = ToolProvider.getSystemJavaCompiler();
        StandardJavaFileManager files = compiler.getStandardFileManager(null, null, null);
        JavacTask task = (JavacTask) compiler.getTask(null, files, null, List.of("-proc:none"), null, files.getJavaFileObjects(path));
        unit = task.parse().iterator().next();
        task.analyze();
        trees = Trees.instance(task);
        new TreePathScanner<Void, Void>() {
            @Override public Void scan(Tree tree, Void nothing) {
                if (tree != null) ways.put(tree, new TreePath(getCurrentPath() == null ? new TreePath(unit) : getCurrentPath(), tree));
                return super.scan(tree, nothing);
            }
        }.scan(new TreePath(unit), null);
        for (MethodTree m : all(MethodTree.class)) methods.put(element(m), m);
        for (Element m : methods.keySet()) calls.put(m, new LinkedHashSet<>());
        for (MethodInvocationTree call : all(MethodInvocationTree.class)) {
            Element from = methodAround(call);
            if (from != null && methods.containsKey(element(call))) calls.get(from).add(element(call));
        }
        for (NewClassTree made : all(NewClassTree.class)) {
            Element from = methodAround(made);
            if (from != null && methods.containsKey(element(made))) calls.get(from).add(element(made));
        }
    }

    private static <T extends Tree> List<T> all(Class<T> kind) {
        List<T> found = new ArrayList<>();
        for (Tree tree : ways.keySet()) if (kind.isInstance(tree) && !madeByCompiler(tree)) found.add(kind.cast(tree));
        return found;
    }

    /** A constructor that isn't written stands at its class's own place. */
    private static boolean madeByCompiler(Tree tree) {
        for (TreePath way = ways.get(tree); way != null; way = way.getParentPath())
            if (way.getLeaf() instanceof MethodTree && trees.getSourcePositions().getEndPosition(unit, way.getLeaf()) < 0) return true;
        return false;
    }

    private static Element element(Tree tree) { return trees.getElement(ways.get(tree)); }

    private static TypeMirror type(Tree tree) { return trees.getTypeMirror(ways.get(tree)); }

    private static String typeName(Tree tree) { return String.valueOf(type(tree)); }

    private static <T extends Tree> T around(Tree tree, Class<T> kind) {
        for (TreePath way = ways.get(tree).getParentPath(); way != null; way = way.getParentPath())
            if (kind.isInstance(way.getLeaf())) return kind.cast(way.getLeaf());
        return null;
    }

    private static Element methodAround(Tree tree) {
        MethodTree m = around(tree, MethodTree.class);
        return m == null ? null : element(m);
    }

    private static boolean inLoop(Tree tree) {
        for (TreePath way = ways.get(tree).getParentPath(); way != null && !(way.getLeaf() instanceof MethodTree); way = way.getParentPath())
            if (isLoop(way.getLeaf())) return true;
        return false;
    }

    private static boolean isLoop(Tree tree) {
        return tree instanceof ForLoopTree || tree instanceof WhileLoopTree || tree instanceof DoWhileLoopTree
            || tree instanceof EnhancedForLoopTree;
    }

    private static String at(Tree tree) {
        long from = trees.getSourcePositions().getStartPosition(unit, tree);
        String words = tree.toString().trim().split("\n")[0];
        return "line " + (from < 0 ? 0 : unit.getLineMap().getLineNumber(from)) + ": " + words;
    }

    private static int lines(Tree tree) {
        long from = trees.getSourcePositions().getStartPosition(unit, tree);
        long until = trees.getSourcePositions().getEndPosition(unit, tree);
        return (int) (unit.getLineMap().getLineNumber(until) - unit.getLineMap().getLineNumber(from)) + 1;
    }

    private static boolean isOwn(Element e) {
        return e != null && (e.toString().equals(OUTER) || e.toString().startsWith(OUTER + "."));
    }

    private static Set<String> publicNames() {
        Set<String> names = new TreeSet<>();
        for (MethodTree m : all(MethodTree.class))
            if (m.getReturnType() != null && m.getModifiers().getFlags().contains(Modifier.PUBLIC)) names.add(m.getName().toString());
        return names;
    }

    // ---- the rules ----

    /** So that a document that changes is noticed here. */
    private static void documentsFace() throws Exception {
        Path document = Path.of("../shared/DOC.md");
        if (!Files.isReadable(document)) return;
        Matcher told = Pattern.compile("```java\n(public final class \\w+ \\{\n.*?)\\}\n```", Pattern.DOTALL).matcher(Files.readString(document));
        must(told.find(), "the document has a face");
        List<String> lines = new ArrayList<>();
        for (String line : told.group(1).split("\n")) lines.add(line.trim());
        must(lines.equals(FACE), "the document's face is as it is here: " + lines);
    }

    private static void theFace() throws Exception {
        rule(1);
        documentsFace();
        Set<String> due = new TreeSet<>(FACE);
        Set<String> is = new TreeSet<>();
        must(unit.getPackageName() == null, "no package line");
        must(unit.getTypeDecls().size() == 1, "one class in the file");
        ClassTree outer = (ClassTree) unit.getTypeDecls().get(0);
        is.add(String.join(" ", words(outer.getModifiers().getFlags())) + " class " + outer.getSimpleName() + " {");
        for (Tree member : outer.getMembers()) {
            if (member instanceof ClassTree) {
                Set<Modifier> flags = ((ClassTree) member).getModifiers().getFlags();
                must(!flags.contains(Modifier.PUBLIC) && !flags.contains(Modifier.PROTECTED), "private or package-visible: " + at(member));
                must(flags.contains(Modifier.STATIC), "static: " + at(member));
            } else if (member instanceof VariableTree) {
                VariableTree field = (VariableTree) member;
                if (isShown(field.getModifiers().getFlags(), field))
                    is.add(String.join(" ", words(field.getModifiers().getFlags())) + " " + field.getType() + " " + field.getName() + " = " + field.getInitializer() + ";");
            } else if (member instanceof MethodTree) {
                MethodTree m = (MethodTree) member;
                if (isShown(m.getModifiers().getFlags(), m)) is.add(header(m));
            } else must(false, "a member: " + at(member));
        }
        must(is.equals(due), "the face is the document's: " + is + ", not " + due);
        Set<String> names = publicNames();
        for (MethodTree m : all(MethodTree.class))
            must(m.getModifiers().getFlags().contains(Modifier.PUBLIC) || !names.contains(m.getName().toString()), "no name of the face: " + at(m));
    }

    private static List<String> words(Set<Modifier> flags) {
        List<String> all = new ArrayList<>();
        for (Modifier flag : flags) all.add(flag.toString());
        return all;
    }

    private static boolean isShown(Set<Modifier> flags, Tree member) {
        must(flags.contains(Modifier.PUBLIC) || flags.contains(Modifier.PRIVATE), "public or private: " + at(member));
        return flags.contains(Modifier.PUBLIC);
    }

    private static String header(MethodTree m) {
        List<String> parameters = new ArrayList<>();
        for (VariableTree v : m.getParameters()) parameters.add(v.getType() + " " + v.getName());
        String name = m.getReturnType() == null ? OUTER : m.getReturnType() + " " + m.getName();
        return String.join(" ", words(m.getModifiers().getFlags())) + " " + name + "(" + String.join(", ", parameters) + ");";
    }

    private static void classesInside() {
        rule(2);
        for (ClassTree c : all(ClassTree.class)) {
            Tree parent = ways.get(c).getParentPath().getLeaf();
            must(parent instanceof CompilationUnitTree || parent instanceof ClassTree, "no local or anonymous class: " + at(c));
            boolean fixed = c.getModifiers().getFlags().contains(Modifier.STATIC) || c.getKind() != Tree.Kind.CLASS;
            must(parent instanceof CompilationUnitTree || fixed, "static: " + at(c));
        }
        for (NewClassTree made : all(NewClassTree.class)) must(made.getClassBody() == null, "no body of its own: " + at(made));
        must(all(LambdaExpressionTree.class).isEmpty(), "no lambda");
        must(all(MemberReferenceTree.class).isEmpty(), "no method reference");
    }

    private static void types() {
        rule(3);
        for (VariableTree v : all(VariableTree.class)) must(isFine(type(v)), "a type that may be: " + at(v));
        for (MethodTree m : all(MethodTree.class)) if (m.getReturnType() != null) must(isFine(type(m.getReturnType())), "a type that may be: " + at(m));
        for (NewArrayTree a : all(NewArrayTree.class)) must(isFine(type(a)), "an array that may be: " + at(a));
        for (BinaryTree b : all(BinaryTree.class)) must(!Set.of("double", "float").contains(typeName(b)), "nothing that could be NaN: " + at(b));
    }

    private static boolean isFine(TypeMirror type) {
        if (type.getKind() == TypeKind.ARRAY) {
            TypeMirror part = ((ArrayType) type).getComponentType();
            if (part.getKind() != TypeKind.ARRAY) return isFine(part);
            TypeMirror number = ((ArrayType) part).getComponentType();
            return number.getKind().isPrimitive() && isFine(number);
        }
        String name = type.toString();
        String raw = name.replaceAll("<.*", "");
        boolean own = raw.equals(OUTER) || raw.startsWith(OUTER + ".");
        String held = name.replaceAll("^[^<]*<|>$", "");
        boolean list = LISTS.contains(raw) && (held.equals("java.lang.Integer") || held.startsWith(OUTER + "."));
        return BARE.contains(name) || LENT.contains(name) || own || list;
    }

    private static void theLibrary() {
        rule(4);
        for (ImportTree i : all(ImportTree.class))
            must(Set.of("java.util.Arrays", "java.util.ArrayList", "java.util.List", "java.util.Iterator").contains(i.getQualifiedIdentifier().toString()), at(i));
        for (MethodInvocationTree call : all(MethodInvocationTree.class)) {
            Element called = element(call);
            Element owner = called.getEnclosingElement();
            if (isOwn(owner)) continue;
            String name = owner + "." + called.getSimpleName();
            boolean sums = SUMS.contains(owner.toString()) && !name.endsWith("Exact");
            for (ExpressionTree given : call.getArguments()) if (sums) must(Set.of("int", "long").contains(typeName(given)), "over int and long: " + at(call));
            boolean array = call.getMethodSelect() instanceof MemberSelectTree && name.endsWith(".clone")
                && type(((MemberSelectTree) call.getMethodSelect()).getExpression()).getKind() == TypeKind.ARRAY;
            must(LIBRARY.contains(name) || sums || array || name.equals("java.lang.Object.<init>"), "lent by the rule: " + name + ", " + at(call));
            if (name.equals("java.lang.String.indexOf")) must(typeName(call.getArguments().get(0)).equals("char"), "of a char: " + at(call));
            if (name.startsWith("java.util.Arrays."))
                must(((ArrayType) type(call.getArguments().get(0))).getComponentType().getKind().isPrimitive(), "over numbers: " + at(call));
        }
        for (NewClassTree made : all(NewClassTree.class)) {
            String name = typeName(made).replaceAll("<.*", "");
            boolean own = name.startsWith(OUTER + ".");
            must(own || Set.of("java.lang.StringBuilder", "java.util.ArrayList", "java.lang.String").contains(name), "made: " + at(made));
        }
        for (MemberSelectTree select : all(MemberSelectTree.class)) {
            Element e = element(select);
            boolean field = e != null && e.getKind() == ElementKind.FIELD && !e.getSimpleName().contentEquals("length");
            must(!field || isOwn(e.getEnclosingElement()), "a field of one's own: " + at(select));
        }
        for (LiteralTree l : all(LiteralTree.class)) {
            if (!(l.getValue() instanceof String) && !(l.getValue() instanceof Character)) continue;
            for (char sign : String.valueOf(l.getValue()).toCharArray()) must(sign >= 1 && sign <= 127, "a sign from 1 to 127: " + at(l));
        }
        for (char sign : source.toCharArray()) if (sign > 126) must(false, "a plain sign: " + (int) sign);
    }

    private static void staticFields() {
        rule(5);
        Set<Element> fixed = new HashSet<>();
        for (VariableTree v : all(VariableTree.class)) {
            Set<Modifier> flags = v.getModifiers().getFlags();
            if (!flags.contains(Modifier.STATIC)) continue;
            fixed.add(element(v));
            must(flags.contains(Modifier.FINAL), "final: " + at(v));
            boolean bare = Set.of("int", "long", "boolean", "char", "java.lang.String").contains(typeName(v));
            boolean row = Set.of("int[]", "long[]", "char[]", "byte[]").contains(typeName(v)) && v.getInitializer() instanceof NewArrayTree
                && ((NewArrayTree) v.getInitializer()).getInitializers() != null;
            must(bare || row, "a constant: " + at(v));
        }
        for (BlockTree b : all(BlockTree.class)) must(!b.isStatic(), "no static block: " + at(b));
        for (Tree target : targets(unit)) {
            Tree named = target instanceof ArrayAccessTree ? ((ArrayAccessTree) target).getExpression() : target;
            must(ways.get(named) == null || !fixed.contains(element(named)), "never changed: " + at(target));
        }
    }

    /** What is assigned to, in some part of the tree. */
    private static List<Tree> targets(Tree part) {
        List<Tree> found = new ArrayList<>();
        new TreeScanner<Void, Void>() {
            @Override public Void visitAssignment(AssignmentTree a, Void nothing) { found.add(a.getVariable()); return super.visitAssignment(a, nothing); }
            @Override public Void visitCompoundAssignment(CompoundAssignmentTree a, Void nothing) { found.add(a.getVariable()); return super.visitCompoundAssignment(a, nothing); }
            @Override public Void visitUnary(UnaryTree u, Void nothing) {
                boolean changes = Set.of(Tree.Kind.POSTFIX_INCREMENT, Tree.Kind.POSTFIX_DECREMENT, Tree.Kind.PREFIX_INCREMENT, Tree.Kind.PREFIX_DECREMENT).contains(u.getKind());
                if (changes) found.add(u.getExpression());
                return super.visitUnary(u, nothing);
            }
        }.scan(part, null);
        return found;
    }

    private static void words() {
        rule(6);
        must(all(ThrowTree.class).isEmpty() && all(TryTree.class).isEmpty(), "no throw, try, catch");
        must(all(SynchronizedTree.class).isEmpty() && all(AssertTree.class).isEmpty(), "no synchronized, assert");
        for (MethodTree m : all(MethodTree.class)) {
            must(m.getThrows().isEmpty(), "throws nothing: " + at(m));
            must(!m.getModifiers().getFlags().contains(Modifier.SYNCHRONIZED), "not synchronized: " + at(m));
            must(!Set.of("equals", "hashCode", "toString").contains(m.getName().toString()), "not of one's own: " + at(m));
        }
        for (CaseTree c : all(CaseTree.class))
            for (ExpressionTree label : c.getExpressions()) must(label instanceof LiteralTree || label instanceof IdentifierTree, "a plain label: " + at(label));
        for (TypeCastTree cast : all(TypeCastTree.class))
            must(type(cast).getKind().isPrimitive() && type(cast.getExpression()).getKind().isPrimitive(), "a cast among numbers: " + at(cast));
        must(all(InstanceOfTree.class).isEmpty(), "no instanceof is needed");
        for (BinaryTree b : all(BinaryTree.class)) {
            if (b.getKind() != Tree.Kind.EQUAL_TO && b.getKind() != Tree.Kind.NOT_EQUAL_TO) continue;
            Set<String> sides = Set.of("java.lang.String", "java.lang.Integer");
            must(!sides.contains(typeName(b.getLeftOperand())) && !sides.contains(typeName(b.getRightOperand())), "not between texts: " + at(b));
        }
    }

    /** Those that call one another carry a depth, and no ring of them is closed by calls that leave it as it was. */
    private static void recursion() {
        rule(8);
        Map<Element, Set<Element>> level = new HashMap<>();
        for (MethodInvocationTree call : all(MethodInvocationTree.class)) {
            Element from = methodAround(call);
            Element to = element(call);
            if (from == null || !methods.containsKey(to) || !reaches(calls, to, from)) continue;
            MethodTree m = methods.get(to);
            int at = -1;
            for (int k = 0; k < m.getParameters().size(); k++) if (m.getParameters().get(k).getName().contentEquals("depth")) at = k;
            must(at >= 0, "carries its depth: " + at(call));
            must(m.getModifiers().getFlags().contains(Modifier.PRIVATE), "private: " + at(m));
            String given = at < 0 ? "" : call.getArguments().get(at).toString();
            must(given.equals("depth") || given.equals("depth + 1"), "the depth, or one more: " + at(call));
            if (given.equals("depth")) level.computeIfAbsent(from, e -> new HashSet<>()).add(to);
            else must(guards(call), "refuses what would go deeper ahead of it: " + at(call));
        }
        for (Element m : level.keySet()) for (Element next : level.get(m)) must(!reaches(level, next, m), "each ring goes deeper: " + m);
    }

    /** Whether the same condition asks open(depth), which refuses, ahead of the call. */
    private static boolean guards(MethodInvocationTree call) {
        Tree whole = call;
        for (TreePath way = ways.get(call); way.getLeaf() instanceof ExpressionTree; way = way.getParentPath()) whole = way.getLeaf();
        String words = whole.toString();
        int asked = words.indexOf("open(depth)");
        return asked >= 0 && asked < words.indexOf(call.toString());
    }

    private static boolean reaches(Map<Element, Set<Element>> graph, Element from, Element to) {
        Set<Element> seen = new HashSet<>();
        List<Element> open = new ArrayList<>(List.of(from));
        while (!open.isEmpty()) {
            Element e = open.remove(open.size() - 1);
            if (e.equals(to)) return true;
            if (seen.add(e)) open.addAll(graph.getOrDefault(e, Set.of()));
        }
        return false;
    }

    /** A loop's condition holds what the loop changes against a bound. */
    private static void loops() {
        rule(9);
        for (ForLoopTree l : all(ForLoopTree.class)) must(ends(l, l.getCondition()), "an end that can be seen: " + at(l));
        for (WhileLoopTree l : all(WhileLoopTree.class)) must(ends(l, l.getCondition()), "an end that can be seen: " + at(l));
        for (DoWhileLoopTree l : all(DoWhileLoopTree.class)) must(ends(l, l.getCondition()), "an end that can be seen: " + at(l));
    }

    private static boolean ends(Tree loop, ExpressionTree condition) {
        if (condition == null) return false;
        Set<String> changed = new HashSet<>();
        for (Tree target : targets(loop)) changed.add(target.toString());
        Set<Tree.Kind> bounds = Set.of(Tree.Kind.LESS_THAN, Tree.Kind.LESS_THAN_EQUAL, Tree.Kind.GREATER_THAN, Tree.Kind.GREATER_THAN_EQUAL);
        boolean[] found = new boolean[1];
        new TreeScanner<Void, Void>() {
            @Override public Void visitBinary(BinaryTree b, Void nothing) {
                if (b.getKind() == Tree.Kind.CONDITIONAL_OR) return null;
                if (bounds.contains(b.getKind()))
                    found[0] |= changed.contains(b.getLeftOperand().toString()) || changed.contains(b.getRightOperand().toString());
                return super.visitBinary(b, nothing);
            }
        }.scan(condition, null);
        return found[0];
    }

    private static void texts() {
        rule(10);
        for (BinaryTree b : all(BinaryTree.class))
            must(b.getKind() != Tree.Kind.PLUS || !typeName(b).equals("java.lang.String"), "not joined by +: " + at(b));
        for (CompoundAssignmentTree a : all(CompoundAssignmentTree.class)) must(!typeName(a).equals("java.lang.String"), "not joined by +: " + at(a));
    }

    private static void sizes() {
        rule(11);
        must(all(ClassTree.class).size() <= 12, "at most twelve classes");
        for (ClassTree c : all(ClassTree.class)) {
            int own = 0;
            for (Tree member : c.getMembers())
                if (member instanceof VariableTree && !((VariableTree) member).getModifiers().getFlags().contains(Modifier.STATIC)) own++;
            must(own <= 20, "at most twenty fields: " + c.getSimpleName() + " has " + own);
        }
        for (MethodTree m : all(MethodTree.class)) {
            must(m.getParameters().size() <= 7, "at most seven parameters: " + at(m));
            must(lines(m) <= 60, "short: " + at(m));
        }
        int most = 0;
        for (Element m : methods.keySet()) most = Math.max(most, depth(m, new HashMap<>()));
        must(most <= 8, "calls at most eight deep: " + most);
    }

    /** How many methods stand open at once, those that call one another counted as one. */
    private static int depth(Element m, Map<Element, Integer> known) {
        if (known.containsKey(m)) return known.get(m);
        Set<Element> ring = new LinkedHashSet<>(Set.of(m));
        for (Element other : methods.keySet()) if (reaches(calls, m, other) && reaches(calls, other, m)) ring.add(other);
        int behind = 0;
        for (Element each : ring) for (Element next : calls.get(each)) if (!ring.contains(next)) behind = Math.max(behind, depth(next, known));
        for (Element each : ring) known.put(each, behind + 1);
        return behind + 1;
    }

    private static void whatIsMade() {
        rule(12);
        List<Tree> made = new ArrayList<>(all(NewClassTree.class));
        made.addAll(all(NewArrayTree.class));
        for (Tree tree : made) {
            MethodTree m = around(tree, MethodTree.class);
            must(m == null || m.getReturnType() == null || !inLoop(tree), "nothing made in a loop of a call: " + at(tree));
        }
        for (NewArrayTree a : all(NewArrayTree.class))
            for (ExpressionTree size : a.getDimensions())
                must(size.toString().matches("[A-Z0-9_ *+()]+|Math\\.max\\(\\w+, 0\\)"), "a length that can't be below 0: " + at(a));
        for (MethodTree m : all(MethodTree.class)) {
            if (m.getReturnType() != null) continue;
            must(!m.getBody().toString().matches("(?s).*\\bthis\\b(?!\\.).*"), "hands nothing out: " + at(m));
            for (Element called : calls.get(element(m))) {
                TypeElement owner = (TypeElement) called.getEnclosingElement();
                must(owner.getModifiers().contains(Modifier.FINAL), "calls nothing that could be overridden: " + at(m));
            }
            for (NewClassTree part : all(NewClassTree.class))
                if (around(part, MethodTree.class) == m)
                    for (ExpressionTree given : part.getArguments()) must(type(given).getKind().isPrimitive(), "hands nothing out: " + at(part));
        }
    }

    private static void nothingOutside() {
        rule(13);
        for (String word : new String[] {"nanoTime", "currentTimeMillis", "Random", "random", "Thread", "File", "getenv", "identityHashCode", "volatile", "native"})
            must(!Pattern.compile("\\b" + word + "\\b").matcher(source).find(), "without " + word);
    }

    public static void main(String[] args) throws Exception {
        read(Path.of(args.length > 0 ? args[0] : "src/main/java/StrikeOut.java"));
        theFace();
        classesInside();
        types();
        theLibrary();
        staticFields();
        words();
        recursion();
        loops();
        texts();
        sizes();
        whatIsMade();
        nothingOutside();
        System.out.println(looked + " places looked at, " + wrong + " against the rules");
        if (wrong != 0) System.exit(1);
    }
}
