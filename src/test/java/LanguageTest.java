import com.sun.source.tree.AssignmentTree;
import com.sun.source.tree.BinaryTree;
import com.sun.source.tree.ClassTree;
import com.sun.source.tree.CompilationUnitTree;
import com.sun.source.tree.CompoundAssignmentTree;
import com.sun.source.tree.ExpressionTree;
import com.sun.source.tree.ForLoopTree;
import com.sun.source.tree.LiteralTree;
import com.sun.source.tree.MethodInvocationTree;
import com.sun.source.tree.MethodTree;
import com.sun.source.tree.NewArrayTree;
import com.sun.source.tree.NewClassTree;
import com.sun.source.tree.ParenthesizedTree;
import com.sun.source.tree.StatementTree;
import com.sun.source.tree.Tree;
import com.sun.source.tree.UnaryTree;
import com.sun.source.tree.VariableTree;
import com.sun.source.tree.WhileLoopTree;
import com.sun.source.util.JavacTask;
import com.sun.source.util.TreePath;
import com.sun.source.util.TreePathScanner;
import com.sun.source.util.TreeScanner;
import com.sun.source.util.Trees;
import java.io.IOException;
import java.nio.file.Files;
import java.nio.file.Path;
import java.util.ArrayList;
import java.util.EnumSet;
import java.util.HashMap;
import java.util.HashSet;
import java.util.List;
import java.util.Map;
import java.util.Set;
import java.util.TreeMap;
import java.util.TreeSet;
import javax.lang.model.element.Element;
import javax.lang.model.element.VariableElement;
import javax.tools.JavaCompiler;
import javax.tools.StandardJavaFileManager;
import javax.tools.ToolProvider;

/**
 * LANGUAGE.md, the rules that ask for more than the class's words: they are looked up in the tree that the compiler
 * makes of it. (FaceTest holds the face and the words.)
 */
public final class LanguageTest extends TreePathScanner<Void, Void> {
  /** Rule 7: divisors that are no constants; that each is looked at before was seen by reading, not by this test. */
  private static final Set<String> DIVISORS = Set.of("greater % less", "above / common", "below / common", "x % riders");
  private static final Set<String> TYPES = Set.of("int", "long", "boolean", "int[]");
  private static final Set<String> LIBRARY = Set.of("System.arraycopy", "Integer.bitCount", "Math.max", "Math.min");
  private static final Set<Tree.Kind> NEVER = EnumSet.of(Tree.Kind.LAMBDA_EXPRESSION, Tree.Kind.MEMBER_REFERENCE, Tree.Kind.THROW,
      Tree.Kind.TRY, Tree.Kind.SYNCHRONIZED, Tree.Kind.ASSERT, Tree.Kind.ENHANCED_FOR_LOOP, Tree.Kind.DO_WHILE_LOOP,
      Tree.Kind.STRING_LITERAL, Tree.Kind.DOUBLE_LITERAL, Tree.Kind.FLOAT_LITERAL, Tree.Kind.INSTANCE_OF, Tree.Kind.NULL_LITERAL);
  private static final Check c = new Check();

  private final Trees trees;
  private final CompilationUnitTree unit;
  private final Set<String> own = new TreeSet<>();
  private final Map<String, Set<String>> calls = new TreeMap<>();
  private String within = "";

  private LanguageTest(Trees trees, CompilationUnitTree unit) {
    this.trees = trees;
    this.unit = unit;
  }

  private String at(Tree tree) {
    return "line " + unit.getLineMap().getLineNumber(trees.getSourcePositions().getStartPosition(unit, tree)) + ": ";
  }

  @Override
  public Void scan(Tree tree, Void none) {
    if (tree != null) c.so(at(tree) + "no " + tree.getKind(), !NEVER.contains(tree.getKind()));
    return super.scan(tree, none);
  }

  @Override
  public Void visitClass(ClassTree tree, Void none) {
    TreePath above = getCurrentPath().getParentPath();
    c.so(at(tree) + "a class of its own, or right inside it", above == null || above.getLeaf() == unit
        || above.getLeaf() instanceof ClassTree && above.getParentPath().getLeaf() == unit);
    for (Tree member : tree.getMembers()) c.so(at(member) + "no block among the members", member.getKind() != Tree.Kind.BLOCK);
    return super.visitClass(tree, none);
  }

  @Override
  public Void visitMethod(MethodTree tree, Void none) {
    String outer = within;
    within = nameOf(trees.getElement(getCurrentPath()));
    calls.putIfAbsent(within, new TreeSet<>());
    c.so(at(tree) + "seven parameters at most", tree.getParameters().size() <= 7);
    super.visitMethod(tree, none);
    within = outer;
    return null;
  }

  private static String nameOf(Element method) {
    return method.getEnclosingElement().getSimpleName() + "." + method.getSimpleName();
  }

  @Override
  public Void visitMethodInvocation(MethodInvocationTree tree, Void none) {
    Element called = trees.getElement(getCurrentPath());
    String name = nameOf(called);
    boolean library = !called.getEnclosingElement().toString().startsWith("StepRiders");
    // the constructor that the compiler writes calls that of Object
    if (library && !name.equals("Object.<init>")) c.so(at(tree) + name + " is of the library", LIBRARY.contains(name));
    if (!library) calls.computeIfAbsent(within, k -> new TreeSet<>()).add(name);
    return super.visitMethodInvocation(tree, none);
  }

  @Override
  public Void visitVariable(VariableTree tree, Void none) {
    String type = String.valueOf(tree.getType()).replaceAll("\\bfinal\\b", "").trim();
    c.so(at(tree) + "a variable of " + type, TYPES.contains(type) || own.contains(type.replace("[]", "")) && !type.endsWith("[][]"));
    return super.visitVariable(tree, none);
  }

  // ---- rule 12: what is made is made with the object

  private void madeAtFirst(Tree tree) {
    boolean first = within.isEmpty() || within.endsWith(".<init>");
    c.so(at(tree) + "made in " + within, first);
  }

  @Override
  public Void visitNewClass(NewClassTree tree, Void none) {
    c.so(at(tree) + "no class without a name", tree.getClassBody() == null);
    madeAtFirst(tree);
    return super.visitNewClass(tree, none);
  }

  @Override
  public Void visitNewArray(NewArrayTree tree, Void none) {
    madeAtFirst(tree);
    return super.visitNewArray(tree, none);
  }

  // ---- rule 7: divisors

  @Override
  public Void visitBinary(BinaryTree tree, Void none) {
    if (tree.getKind() == Tree.Kind.DIVIDE || tree.getKind() == Tree.Kind.REMAINDER)
      divided(tree, tree.getRightOperand(), tree.toString());
    return super.visitBinary(tree, none);
  }

  @Override
  public Void visitCompoundAssignment(CompoundAssignmentTree tree, Void none) {
    if (tree.getKind() == Tree.Kind.DIVIDE_ASSIGNMENT || tree.getKind() == Tree.Kind.REMAINDER_ASSIGNMENT)
      divided(tree, tree.getExpression(), tree.toString());
    return super.visitCompoundAssignment(tree, none);
  }

  private void divided(Tree tree, ExpressionTree divisor, String words) {
    c.so(at(tree) + "may divide by 0: " + words, isConstant(divisor) || DIVISORS.contains(words));
  }

  /** Of constants above 0 and sums of them. */
  private boolean isConstant(ExpressionTree tree) {
    if (tree instanceof ParenthesizedTree) return isConstant(((ParenthesizedTree) tree).getExpression());
    if (tree instanceof LiteralTree) return ((Number) ((LiteralTree) tree).getValue()).longValue() > 0;
    if (tree.getKind() == Tree.Kind.PLUS)
      return isConstant(((BinaryTree) tree).getLeftOperand()) && isConstant(((BinaryTree) tree).getRightOperand());
    Element named = trees.getElement(new TreePath(getCurrentPath(), tree));
    Object value = named instanceof VariableElement ? ((VariableElement) named).getConstantValue() : null;
    return value instanceof Number && ((Number) value).longValue() > 0;
  }

  // ---- rule 9: loops that count against a bound

  @Override
  public Void visitForLoop(ForLoopTree tree, Void none) {
    boolean one = tree.getInitializer().size() == 1 && tree.getUpdate().size() == 1;
    String counter = one && tree.getInitializer().get(0) instanceof VariableTree
        ? ((VariableTree) tree.getInitializer().get(0)).getName().toString() : "?";
    Set<String> steps = Set.of(counter + "++", counter + "--");
    c.so(at(tree) + "it counts " + counter, one && steps.contains(tree.getUpdate().get(0).toString().replace(";", "").trim()));
    c.so(at(tree) + "its end is told: " + tree.getCondition(), bounds(tree.getCondition(), counter));
    c.so(at(tree) + "nothing else changes " + counter, !changes(tree.getStatement(), counter));
    return super.visitForLoop(tree, none);
  }

  @Override
  public Void visitWhileLoop(WhileLoopTree tree, Void none) {
    String counter = firstCompared(tree.getCondition());
    c.so(at(tree) + "its end is told: " + tree.getCondition(), bounds(tree.getCondition(), counter));
    c.so(at(tree) + "it counts " + counter, tree.getStatement().toString().contains(counter + "++"));
    return super.visitWhileLoop(tree, none);
  }

  private static ExpressionTree bare(ExpressionTree tree) {
    return tree instanceof ParenthesizedTree ? bare(((ParenthesizedTree) tree).getExpression()) : tree;
  }

  private static String firstCompared(ExpressionTree condition) {
    ExpressionTree left = bare(condition);
    while (left instanceof BinaryTree) left = bare(((BinaryTree) left).getLeftOperand());
    return left.toString();
  }

  /** Whether the condition, or one of those that must all hold, holds the counter against a bound. */
  private static boolean bounds(ExpressionTree condition, String counter) {
    ExpressionTree tree = bare(condition);
    if (!(tree instanceof BinaryTree)) return false;
    BinaryTree two = (BinaryTree) tree;
    if (tree.getKind() == Tree.Kind.CONDITIONAL_AND) return bounds(two.getLeftOperand(), counter) || bounds(two.getRightOperand(), counter);
    boolean less = tree.getKind() == Tree.Kind.LESS_THAN || tree.getKind() == Tree.Kind.LESS_THAN_EQUAL;
    boolean down = tree.getKind() == Tree.Kind.GREATER_THAN_EQUAL;
    return (less || down) && two.getLeftOperand().toString().equals(counter);
  }

  private static boolean changes(StatementTree body, String counter) {
    Set<String> changed = new HashSet<>();
    new TreeScanner<Void, Void>() {
      @Override
      public Void visitAssignment(AssignmentTree tree, Void none) {
        changed.add(tree.getVariable().toString());
        return super.visitAssignment(tree, none);
      }

      @Override
      public Void visitCompoundAssignment(CompoundAssignmentTree tree, Void none) {
        changed.add(tree.getVariable().toString());
        return super.visitCompoundAssignment(tree, none);
      }

      @Override
      public Void visitUnary(UnaryTree tree, Void none) {
        if (tree.getKind().toString().contains("CREMENT")) changed.add(tree.getExpression().toString());
        return super.visitUnary(tree, none);
      }
    }.scan(body, null);
    return changed.contains(counter);
  }

  // ---- rules 8 and 11: how deep calls go

  /** The longest chain from a method on, a call of itself left out. */
  private int deep(String method, List<String> open, Map<String, Integer> known) {
    if (known.containsKey(method)) return known.get(method);
    open.add(method);
    int deepest = 0;
    for (String next : calls.getOrDefault(method, Set.of())) {
      if (next.equals(method)) {
        c.same("calls itself", method, "StepRiders.answerOf");
        continue;
      }
      c.so(method + " and " + next + " call one another", !open.contains(next));
      if (!open.contains(next)) deepest = Math.max(deepest, deep(next, open, known));
    }
    open.remove(method);
    known.put(method, deepest + 1);
    return deepest + 1;
  }

  private void depths() {
    Map<String, Integer> known = new HashMap<>();
    int deepest = 0;
    for (String method : calls.keySet()) {
      int its = deep(method, new ArrayList<>(), known);
      c.so(method + " goes " + its + " deep", its <= 8);
      deepest = Math.max(deepest, its);
    }
    System.out.println("calls go " + deepest + " deep");
    c.so("calls were found", deepest > 4 && calls.size() > 80);
  }

  public static void main(String[] args) throws IOException {
    JavaCompiler javac = ToolProvider.getSystemJavaCompiler();
    Path out = Files.createTempDirectory("language");
    try (StandardJavaFileManager files = javac.getStandardFileManager(null, null, null)) {
      JavacTask task = (JavacTask) javac.getTask(null, files, null, List.of("-d", out.toString(), "-proc:none"), null,
          files.getJavaFileObjects(Path.of("src/main/java/StepRiders.java")));
      CompilationUnitTree unit = task.parse().iterator().next();
      task.analyze();
      LanguageTest test = new LanguageTest(Trees.instance(task), unit);
      test.collectClasses();
      test.scan(unit, null);
      c.so("some twelve classes", test.own.size() <= 12);
      c.so("one class in the file, nothing imported", unit.getTypeDecls().size() == 1 && unit.getImports().isEmpty());
      test.depths();
    }
    Files.delete(out);
    c.end("LanguageTest");
  }

  /** Their names come first, as variables are told ahead of the classes they are of. */
  private void collectClasses() {
    new TreeScanner<Void, Void>() {
      @Override
      public Void visitClass(ClassTree tree, Void none) {
        own.add(tree.getSimpleName().toString());
        return super.visitClass(tree, none);
      }
    }.scan(unit, null);
  }
}
