import com.sun.source.tree.*;
import com.sun.source.util.JavacTask;
import com.sun.source.util.TreePath;
import com.sun.source.util.TreePathScanner;
import com.sun.source.util.Trees;
import java.nio.file.Path;
import java.util.ArrayList;
import java.util.EnumSet;
import java.util.List;
import java.util.Map;
import java.util.Set;
import java.util.TreeMap;
import java.util.TreeSet;
import javax.lang.model.element.Element;
import javax.lang.model.element.ExecutableElement;
import javax.lang.model.element.Modifier;
import javax.lang.model.element.VariableElement;
import javax.lang.model.type.ArrayType;
import javax.lang.model.type.TypeKind;
import javax.lang.model.type.TypeMirror;
import javax.tools.JavaCompiler;
import javax.tools.StandardJavaFileManager;
import javax.tools.ToolProvider;

/** The rules of LANGUAGE.md in the tree that javac makes of the source; a rule's number stands ahead of what it asks. */
public final class TreeRulesTest extends TreePathScanner<Void, Void> {
  private static final Set<String> LIBRARY = Set.of("java.lang.String.length", "java.lang.String.charAt", "java.lang.Math.max", "java.lang.Math.min",
      "java.lang.Integer.bitCount", "java.lang.System.arraycopy", "java.util.Arrays.fill", "java.lang.Object.<init>");
  private static final Set<Tree.Kind> NEVER = EnumSet.of(Tree.Kind.THROW, Tree.Kind.TRY, Tree.Kind.CATCH, Tree.Kind.SYNCHRONIZED, Tree.Kind.ASSERT,
      Tree.Kind.LAMBDA_EXPRESSION, Tree.Kind.MEMBER_REFERENCE, Tree.Kind.SWITCH_EXPRESSION, Tree.Kind.YIELD, Tree.Kind.ANNOTATION,
      Tree.Kind.BINDING_PATTERN, Tree.Kind.INSTANCE_OF, Tree.Kind.RECORD, Tree.Kind.ENUM, Tree.Kind.INTERFACE, Tree.Kind.PARAMETERIZED_TYPE);

  private final Trees trees;
  private final CompilationUnitTree unit;
  private final Map<String, Set<String>> calls = new TreeMap<>();
  private final Set<String> open = new TreeSet<>();
  private final Set<String> closed = new TreeSet<>();
  private int classes = 0;
  private int loops = 0;

  private TreeRulesTest(Trees ofTrees, CompilationUnitTree ofUnit) {
    trees = ofTrees;
    unit = ofUnit;
  }

  private String where(Tree t) {
    return "line " + unit.getLineMap().getLineNumber(trees.getSourcePositions().getStartPosition(unit, t)) + ": ";
  }

  private long lines(Tree t) {
    long from = unit.getLineMap().getLineNumber(trees.getSourcePositions().getStartPosition(unit, t));
    return unit.getLineMap().getLineNumber(trees.getSourcePositions().getEndPosition(unit, t)) - from + 1;
  }

  private Element element() { return trees.getElement(getCurrentPath()); }

  private TypeMirror type(Tree t) { return trees.getTypeMirror(TreePath.getPath(unit, t)); }

  private boolean isOwn(String name) { return name.equals("NoSecond") || name.startsWith("NoSecond."); }

  private static String name(Element e) { return e.getEnclosingElement() + "." + e.getSimpleName(); }

  @Override public Void scan(Tree t, Void v) {
    if (t != null) Support.so("6 " + where(t) + t.getKind(), !NEVER.contains(t.getKind()));
    return super.scan(t, v);
  }

  @Override public Void visitClass(ClassTree t, Void v) {
    classes++;
    boolean isTop = getCurrentPath().getParentPath().getLeaf() == unit;
    Set<Modifier> is = t.getModifiers().getFlags();
    Support.so("2 " + where(t) + "a class of the file, or static in it", isTop ? is.contains(Modifier.PUBLIC) && is.contains(Modifier.FINAL)
        : is.contains(Modifier.STATIC) && !is.contains(Modifier.PUBLIC) && getCurrentPath().getParentPath().getParentPath().getLeaf() == unit);
    Support.so("2 " + where(t) + "extends nothing", t.getExtendsClause() == null && t.getImplementsClause().isEmpty());
    int fields = 0;
    for (Tree m : t.getMembers()) {
      Support.so("5 " + where(m) + "no block of its own", m.getKind() != Tree.Kind.BLOCK);
      if (m instanceof VariableTree f && !f.getModifiers().getFlags().contains(Modifier.STATIC)) fields++;
    }
    Support.so("11 " + t.getSimpleName() + " has some twenty fields, not " + fields, fields <= 20);
    return super.visitClass(t, v);
  }

  @Override public Void visitVariable(VariableTree t, Void v) {
    VariableElement e = (VariableElement) element();
    TypeMirror of = e.asType();
    int deep = 0;
    for (; of.getKind() == TypeKind.ARRAY; of = ((ArrayType) of).getComponentType()) deep++;
    boolean isNumber = of.getKind() == TypeKind.INT || of.getKind() == TypeKind.LONG;
    boolean isText = of.toString().equals("java.lang.String");
    boolean isKnown = isNumber || of.getKind() == TypeKind.BOOLEAN || of.getKind() == TypeKind.CHAR || isText || isOwn(of.toString());
    Support.so("3 " + where(t) + e.asType(), isKnown && deep <= (isNumber ? 2 : 1) && !(isText && deep > 0));
    if (e.getModifiers().contains(Modifier.STATIC)) {
      Support.so("5 " + where(t) + "a constant", e.getModifiers().contains(Modifier.FINAL) && e.getConstantValue() != null);
    }
    return super.visitVariable(t, v);
  }

  @Override public Void visitMethod(MethodTree t, Void v) {
    ExecutableElement e = (ExecutableElement) element();
    calls.putIfAbsent(name(e), new TreeSet<>());
    (e.getModifiers().contains(Modifier.PUBLIC) ? open : closed).add(e.getSimpleName().toString());
    Support.so("11 " + where(t) + "seven parameters", t.getParameters().size() <= 7);
    Support.so("11 " + where(t) + "some sixty lines, not " + lines(t), lines(t) <= 60);
    Support.so("6 " + where(t) + "throws nothing", t.getThrows().isEmpty());
    return super.visitMethod(t, v);
  }

  /** The method, or the class's making, in which something stands. */
  private String around() {
    for (TreePath p = getCurrentPath(); p != null; p = p.getParentPath()) {
      if (p.getLeaf() instanceof MethodTree) return name(trees.getElement(p));
      if (p.getLeaf() instanceof ClassTree) return trees.getElement(p) + ".<init>";
    }
    return "";
  }

  private void called(Tree t) {
    String to = name(element());
    if (isOwn(to)) calls.computeIfAbsent(around(), k -> new TreeSet<>()).add(to);
    else Support.so("4 " + where(t) + to, LIBRARY.contains(to));
  }

  @Override public Void visitMethodInvocation(MethodInvocationTree t, Void v) {
    called(t);
    return super.visitMethodInvocation(t, v);
  }

  @Override public Void visitNewClass(NewClassTree t, Void v) {
    called(t);
    Support.so("2 " + where(t) + "no class without a name", t.getClassBody() == null);
    return super.visitNewClass(t, v);
  }

  @Override public Void visitImport(ImportTree t, Void v) {
    Support.so("4 " + t, t.getQualifiedIdentifier().toString().equals("java.util.Arrays") && !t.isStatic());
    return null;
  }

  @Override public Void visitBinary(BinaryTree t, Void v) {
    boolean isText = ("" + type(t.getLeftOperand()) + type(t.getRightOperand())).contains("java.lang.String");
    Support.so("6, 10 " + where(t) + "texts are neither joined nor compared by " + t.getKind(), !isText);
    if (t.getKind() == Tree.Kind.DIVIDE || t.getKind() == Tree.Kind.REMAINDER) divisor(t.getRightOperand());
    return super.visitBinary(t, v);
  }

  @Override public Void visitCompoundAssignment(CompoundAssignmentTree t, Void v) {
    Support.so("7 " + where(t) + "no divisor here", t.getKind() != Tree.Kind.DIVIDE_ASSIGNMENT && t.getKind() != Tree.Kind.REMAINDER_ASSIGNMENT);
    return super.visitCompoundAssignment(t, v);
  }

  /** A number that is written, a constant other than 0, or one of the two that the lines ahead look at. */
  private void divisor(ExpressionTree t) {
    Element e = trees.getElement(TreePath.getPath(unit, t));
    Object constant = e instanceof VariableElement n ? n.getConstantValue() : t instanceof LiteralTree l ? l.getValue() : null;
    boolean isSafe = constant != null ? ((Number) constant).longValue() != 0 : t.toString().equals("right") || t.toString().equals("isles.people");
    Support.so("7 " + where(t) + "divisor " + t, isSafe);
  }

  @Override public Void visitForLoop(ForLoopTree t, Void v) {
    loops++;
    Support.so("9 " + where(t) + "an end", t.getCondition() != null && t.getUpdate().size() == 1);
    return super.visitForLoop(t, v);
  }

  @Override public Void visitWhileLoop(WhileLoopTree t, Void v) {
    loops++;
    String text = t.toString();
    String condition = t.getCondition().toString();
    boolean isUp = condition.contains("at < size") && text.contains("at++") || condition.contains("next < size") && text.contains("next++");
    Support.so("9 " + where(t) + "an end: " + condition, isUp || condition.contains("at > 0") && text.contains("at--"));
    return super.visitWhileLoop(t, v);
  }

  @Override public Void visitDoWhileLoop(DoWhileLoopTree t, Void v) {
    Support.so("9 " + where(t) + "no such loop so far", false);
    return super.visitDoWhileLoop(t, v);
  }

  private static void reach(Map<String, Set<String>> calls, String from, Set<String> reached) {
    for (String to : calls.get(from)) if (reached.add(to)) reach(calls, to, reached);
  }

  /** How many calls stand open at most from a method on, those of one recursion counted as one. */
  private int deep(Map<String, Set<String>> reached, String from) {
    int most = 0;
    Set<String> group = new TreeSet<>(Set.of(from));
    for (String m : reached.get(from)) if (reached.get(m).contains(from)) group.add(m);
    for (String m : group) for (String to : calls.get(m)) if (!group.contains(to)) most = Math.max(most, deep(reached, to));
    return 1 + most;
  }

  private void depth() {
    Map<String, Set<String>> reached = new TreeMap<>();
    for (String m : calls.keySet()) {
      reached.put(m, new TreeSet<>());
      reach(calls, m, reached.get(m));
    }
    Set<String> again = new TreeSet<>();
    for (String m : calls.keySet()) {
      int deep = deep(reached, m);
      Support.so("11 " + m + " goes at most eight deep, not " + deep, deep <= 8);
      if (reached.get(m).contains(m)) again.add(m.replace("NoSecond.Reader.", ""));
    }
    Support.so("8 only texts with brackets go deeper, and each of these is told how deep: " + again,
        again.equals(Set.of("readTest", "readBoth", "readPlain", "readSum", "readTerm", "readPart")));
  }

  private void whole() {
    Support.so("11 some twelve classes, not " + classes, classes > 1 && classes <= 12);
    Support.so("9 loops were seen: " + loops, loops > 50);
    Support.so("methods were seen: " + calls.size(), calls.size() > 100 && calls.get("NoSecond.orders").contains("NoSecond.obey"));
    closed.retainAll(open);
    closed.remove("<init>");
    Support.so("1 names of the face alone: " + closed, closed.isEmpty());
    depth();
  }

  public static void main(String[] args) throws Exception {
    JavaCompiler javac = ToolProvider.getSystemJavaCompiler();
    try (StandardJavaFileManager files = javac.getStandardFileManager(null, null, null)) {
      String file = args.length > 0 ? args[0] : "src/main/java/NoSecond.java";
      JavacTask task = (JavacTask) javac.getTask(null, files, null, List.of("-proc:none"), null, files.getJavaFileObjects(Path.of(file)));
      List<CompilationUnitTree> units = new ArrayList<>();
      for (CompilationUnitTree u : task.parse()) units.add(u);
      task.analyze();
      TreeRulesTest rules = new TreeRulesTest(Trees.instance(task), units.get(0));
      Support.so("one file without a package", units.size() == 1 && units.get(0).getPackageName() == null && units.get(0).getTypeDecls().size() == 1);
      rules.scan(units.get(0), null);
      rules.whole();
    }
    Support.close("TreeRulesTest");
  }
}
