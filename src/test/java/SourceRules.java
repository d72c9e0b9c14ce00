import com.sun.source.tree.ArrayAccessTree;
import com.sun.source.tree.AssertTree;
import com.sun.source.tree.AssignmentTree;
import com.sun.source.tree.BinaryTree;
import com.sun.source.tree.BlockTree;
import com.sun.source.tree.ClassTree;
import com.sun.source.tree.CompilationUnitTree;
import com.sun.source.tree.CompoundAssignmentTree;
import com.sun.source.tree.DoWhileLoopTree;
import com.sun.source.tree.ExpressionTree;
import com.sun.source.tree.ForLoopTree;
import com.sun.source.tree.InstanceOfTree;
import com.sun.source.tree.LambdaExpressionTree;
import com.sun.source.tree.LiteralTree;
import com.sun.source.tree.MemberReferenceTree;
import com.sun.source.tree.MethodInvocationTree;
import com.sun.source.tree.MethodTree;
import com.sun.source.tree.NewArrayTree;
import com.sun.source.tree.NewClassTree;
import com.sun.source.tree.SynchronizedTree;
import com.sun.source.tree.ThrowTree;
import com.sun.source.tree.Tree;
import com.sun.source.tree.TryTree;
import com.sun.source.tree.TypeCastTree;
import com.sun.source.tree.UnaryTree;
import com.sun.source.tree.VariableTree;
import com.sun.source.tree.WhileLoopTree;
import com.sun.source.util.JavacTask;
import com.sun.source.util.TreePath;
import com.sun.source.util.TreePathScanner;
import com.sun.source.util.Trees;
import java.io.IOException;
import java.nio.file.Path;
import java.util.ArrayList;
import java.util.HashMap;
import java.util.HashSet;
import java.util.List;
import java.util.Map;
import java.util.Set;
import javax.lang.model.element.Element;
import javax.lang.model.element.ElementKind;
import javax.lang.model.element.ExecutableElement;
import javax.lang.model.element.Modifier;
import javax.lang.model.type.ArrayType;
import javax.lang.model.type.TypeKind;
import javax.lang.model.type.TypeMirror;
import javax.tools.JavaCompiler;
import javax.tools.StandardJavaFileManager;
import javax.tools.ToolProvider;

/** The rules of LANGUAGE.md that the source's own tree can tell, from the first on; it says which are broken. */
final class SourceRules extends TreePathScanner<Void, Void> {
  private static final Set<String> LIBRARY = Set.of(
      "java.lang.String.length", "java.lang.String.charAt", "java.lang.Math.max", "java.lang.Math.min", "java.lang.Math.abs",
      "java.lang.Integer.numberOfTrailingZeros", "java.lang.Long.bitCount", "java.lang.System.arraycopy");
  private static final int MOST_LINES = 60;
  private static final int MOST_PARAMETERS = 7;
  private static final int MOST_DEEP = 8;

  private final List<String> broken = new ArrayList<>();
  private final Map<String, Set<String>> calls = new HashMap<>();
  private final Trees trees;
  private CompilationUnitTree file;
  private String method = "";
  private boolean inMethod = false;

  private SourceRules(Trees trees) { this.trees = trees; }

  /** What is broken in a source file. */
  static List<String> brokenIn(Path source) throws IOException {
    JavaCompiler compiler = ToolProvider.getSystemJavaCompiler();
    try (StandardJavaFileManager files = compiler.getStandardFileManager(null, null, null)) {
      JavacTask task = (JavacTask) compiler.getTask(null, files, null, List.of("-proc:none"), null, files.getJavaFileObjects(source));
      Iterable<? extends CompilationUnitTree> parsed = task.parse();
      task.analyze();
      SourceRules rules = new SourceRules(Trees.instance(task));
      for (CompilationUnitTree unit : parsed) {
        rules.file = unit;
        rules.scan(unit, null);
      }
      rules.depths();
      return rules.broken;
    }
  }

  private void require(boolean holds, int rule, String what, Tree where) {
    if (holds) return;
    long line = file.getLineMap().getLineNumber(trees.getSourcePositions().getStartPosition(file, where));
    broken.add("rule " + rule + ", line " + line + ": " + what);
  }

  private TypeMirror typeOf(Tree tree) { return trees.getTypeMirror(new TreePath(getCurrentPath(), tree)); }

  private static boolean isOwn(String name) { return name.equals("ButterflyCode") || name.startsWith("ButterflyCode."); }

  // ---- the file and its classes ----

  @Override public Void visitCompilationUnit(CompilationUnitTree t, Void v) {
    require(t.getPackage() == null, 1, "a package line", t);
    require(t.getImports().isEmpty(), 4, "an import", t);
    require(t.getTypeDecls().size() == 1, 1, "more than one class of its own", t);
    return super.visitCompilationUnit(t, v);
  }

  @Override public Void visitClass(ClassTree t, Void v) {
    Element e = trees.getElement(getCurrentPath());
    boolean outer = e.getEnclosingElement().getKind() == ElementKind.PACKAGE;
    require(outer || e.getModifiers().contains(Modifier.STATIC), 2, "a class that is not static", t);
    require(!inMethod, 2, "a class inside a method", t);
    for (Tree member : t.getMembers()) {
      require(!(member instanceof BlockTree), 5, "a block that is no method", member);
    }
    return super.visitClass(t, v);
  }

  @Override public Void visitMethod(MethodTree t, Void v) {
    String outer = method;
    method = nameOf((ExecutableElement) trees.getElement(getCurrentPath()));
    calls.computeIfAbsent(method, m -> new HashSet<>());
    long from = trees.getSourcePositions().getStartPosition(file, t);
    long to = trees.getSourcePositions().getEndPosition(file, t);
    long lines = file.getLineMap().getLineNumber(to) - file.getLineMap().getLineNumber(from) + 1;
    require(to < 0 || lines <= MOST_LINES, 11, lines + " lines: " + method, t);
    require(t.getParameters().size() <= MOST_PARAMETERS, 11, "too many parameters: " + method, t);
    require(t.getThrows().isEmpty(), 6, "throws: " + method, t);
    String name = t.getName().toString();
    require(!Set.of("equals", "hashCode", "toString", "finalize", "clone").contains(name), 6, "a method " + name, t);
    if (t.getReturnType() != null) type(typeOf(t.getReturnType()), t);
    inMethod = true;
    super.visitMethod(t, v);
    inMethod = false;
    method = outer;
    return null;
  }

  @Override public Void visitVariable(VariableTree t, Void v) {
    Element e = trees.getElement(getCurrentPath());
    type(e.asType(), t);
    if (e.getKind() == ElementKind.FIELD && e.getModifiers().contains(Modifier.STATIC)) {
      require(e.getModifiers().contains(Modifier.FINAL), 5, "static and not final: " + t.getName(), t);
      boolean writtenOut = t.getInitializer() instanceof NewArrayTree made && made.getInitializers() != null;
      boolean constant = e.asType().getKind() != TypeKind.ARRAY && (e.asType().getKind().isPrimitive() || e.asType().toString().equals("java.lang.String"));
      require(constant || writtenOut, 5, "no constant: " + t.getName(), t);
    }
    return super.visitVariable(t, v);
  }

  /** Numbers, texts, own classes, and arrays of one dimension of these (of two of numbers). */
  private void type(TypeMirror type, Tree where) {
    TypeMirror inner = type;
    int dimensions = 0;
    while (inner instanceof ArrayType array) {
      inner = array.getComponentType();
      dimensions++;
    }
    boolean number = inner.getKind().isPrimitive();
    boolean known = number || inner.getKind() == TypeKind.VOID || isOwn(inner.toString()) || inner.toString().equals("java.lang.String");
    require(known && dimensions <= (number ? 2 : 1), 3, "the type " + type, where);
    require(inner.getKind() != TypeKind.DOUBLE && inner.getKind() != TypeKind.FLOAT, 3, "no need of " + type, where);
  }

  // ---- what stands in methods ----

  private void forbidden(int rule, String what, Tree t) { require(false, rule, what, t); }

  @Override public Void visitLambdaExpression(LambdaExpressionTree t, Void v) { forbidden(2, "a lambda", t); return null; }
  @Override public Void visitMemberReference(MemberReferenceTree t, Void v) { forbidden(2, "a method reference", t); return null; }
  @Override public Void visitThrow(ThrowTree t, Void v) { forbidden(6, "throw", t); return null; }
  @Override public Void visitTry(TryTree t, Void v) { forbidden(6, "try", t); return null; }
  @Override public Void visitSynchronized(SynchronizedTree t, Void v) { forbidden(6, "synchronized", t); return null; }
  @Override public Void visitAssert(AssertTree t, Void v) { forbidden(6, "assert", t); return null; }
  @Override public Void visitInstanceOf(InstanceOfTree t, Void v) { forbidden(6, "instanceof: there is one kind of each", t); return null; }

  @Override public Void visitTypeCast(TypeCastTree t, Void v) {
    require(typeOf(t.getType()).getKind().isPrimitive(), 6, "a cast of an object", t);
    return super.visitTypeCast(t, v);
  }

  @Override public Void visitNewClass(NewClassTree t, Void v) {
    require(t.getClassBody() == null, 2, "an anonymous class", t);
    require(isOwn(typeOf(t.getIdentifier()).toString()), 4, "new " + t.getIdentifier(), t);
    made(t);
    return super.visitNewClass(t, v);
  }

  @Override public Void visitNewArray(NewArrayTree t, Void v) {
    made(t);
    return super.visitNewArray(t, v);
  }

  /** All rows are made with the object: no call makes any, so no run leaves its room. */
  private void made(Tree t) { require(!inMethod || method.endsWith(".<init>"), 12, "made by a call: " + t, t); }

  @Override public Void visitMethodInvocation(MethodInvocationTree t, Void v) {
    ExecutableElement called = (ExecutableElement) trees.getElement(new TreePath(getCurrentPath(), t.getMethodSelect()));
    String name = nameOf(called);
    boolean own = isOwn(called.getEnclosingElement().toString());
    boolean maker = name.equals("java.lang.Object.<init>");
    require(own || maker || LIBRARY.contains(name), 4, "a call of " + name, t);
    if (own) calls.get(method).add(name);
    return super.visitMethodInvocation(t, v);
  }

  private static String nameOf(ExecutableElement e) { return e.getEnclosingElement() + "." + e.getSimpleName(); }

  @Override public Void visitBinary(BinaryTree t, Void v) {
    TypeMirror left = typeOf(t.getLeftOperand());
    TypeMirror right = typeOf(t.getRightOperand());
    require(left.getKind().isPrimitive() && right.getKind().isPrimitive(), 10, "objects in " + t, t);
    if (t.getKind() == Tree.Kind.DIVIDE || t.getKind() == Tree.Kind.REMAINDER) divisor(t.getRightOperand(), t);
    return super.visitBinary(t, v);
  }

  /** A number that is written out, a constant, or k, which is looked at just ahead of it. */
  private void divisor(ExpressionTree by, Tree t) {
    boolean written = by instanceof LiteralTree literal && !literal.getValue().toString().matches("0+L?");
    Element e = trees.getElement(new TreePath(getCurrentPath(), by));
    boolean constant = e != null && e.getModifiers().contains(Modifier.STATIC) && e.getModifiers().contains(Modifier.FINAL);
    boolean looked = by.toString().equals("k") && method.equals("ButterflyCode.draw");
    require(written || constant || looked, 7, "a divisor that may be 0: " + t, t);
  }

  @Override public Void visitAssignment(AssignmentTree t, Void v) {
    changed(t.getVariable());
    return super.visitAssignment(t, v);
  }

  @Override public Void visitCompoundAssignment(CompoundAssignmentTree t, Void v) {
    changed(t.getVariable());
    boolean divides = t.getKind() == Tree.Kind.DIVIDE_ASSIGNMENT || t.getKind() == Tree.Kind.REMAINDER_ASSIGNMENT;
    if (divides) divisor(t.getExpression(), t);
    return super.visitCompoundAssignment(t, v);
  }

  @Override public Void visitUnary(UnaryTree t, Void v) {
    boolean counts = t.getKind().toString().contains("CREMENT");
    if (counts) changed(t.getExpression());
    return super.visitUnary(t, v);
  }

  private void changed(ExpressionTree target) {
    if (!(target instanceof ArrayAccessTree at)) return;
    TreePath path = new TreePath(new TreePath(getCurrentPath(), target), at.getExpression());
    Element row = trees.getElement(path);
    require(row == null || !row.getModifiers().contains(Modifier.STATIC), 5, "a constant row is changed", target);
  }

  // ---- loops ----

  @Override public Void visitForLoop(ForLoopTree t, Void v) {
    require(t.getCondition() != null && hasBound(t.getCondition()), 9, "no end in sight: for", t);
    return super.visitForLoop(t, v);
  }

  @Override public Void visitWhileLoop(WhileLoopTree t, Void v) {
    require(hasBound(t.getCondition()), 9, "no end in sight: while " + t.getCondition(), t);
    return super.visitWhileLoop(t, v);
  }

  @Override public Void visitDoWhileLoop(DoWhileLoopTree t, Void v) {
    require(hasBound(t.getCondition()), 9, "no end in sight: do", t);
    return super.visitDoWhileLoop(t, v);
  }

  /** A comparison that must hold for the loop to go on. */
  private static boolean hasBound(Tree condition) { return condition.toString().matches("(?s)\\(?[^|]*[<>].*"); }

  // ---- how deep calls go ----

  private void depths() {
    for (String m : calls.keySet()) {
      int deep = depth(m, new ArrayList<>());
      if (deep > MOST_DEEP) broken.add("rule 11: calls go " + deep + " deep from " + m);
    }
  }

  private int depth(String from, List<String> open) {
    if (open.contains(from)) {
      broken.add("rule 8: " + from + " calls itself");
      return 0;
    }
    open.add(from);
    int deepest = 0;
    for (String to : calls.getOrDefault(from, Set.of())) deepest = Math.max(deepest, depth(to, open));
    open.remove(open.size() - 1);
    return deepest + 1;
  }
}
