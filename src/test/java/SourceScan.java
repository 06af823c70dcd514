import com.sun.source.tree.AssertTree;
import com.sun.source.tree.BinaryTree;
import com.sun.source.tree.BlockTree;
import com.sun.source.tree.ClassTree;
import com.sun.source.tree.CompilationUnitTree;
import com.sun.source.tree.CompoundAssignmentTree;
import com.sun.source.tree.DoWhileLoopTree;
import com.sun.source.tree.EnhancedForLoopTree;
import com.sun.source.tree.ExpressionTree;
import com.sun.source.tree.ForLoopTree;
import com.sun.source.tree.IfTree;
import com.sun.source.tree.InstanceOfTree;
import com.sun.source.tree.LambdaExpressionTree;
import com.sun.source.tree.LiteralTree;
import com.sun.source.tree.MemberReferenceTree;
import com.sun.source.tree.MethodInvocationTree;
import com.sun.source.tree.MethodTree;
import com.sun.source.tree.ModifiersTree;
import com.sun.source.tree.NewArrayTree;
import com.sun.source.tree.NewClassTree;
import com.sun.source.tree.SynchronizedTree;
import com.sun.source.tree.ThrowTree;
import com.sun.source.tree.Tree;
import com.sun.source.tree.TryTree;
import com.sun.source.tree.TypeCastTree;
import com.sun.source.tree.VariableTree;
import com.sun.source.tree.WhileLoopTree;
import com.sun.source.util.TreePath;
import com.sun.source.util.TreePathScanner;
import com.sun.source.util.Trees;
import java.util.ArrayList;
import java.util.LinkedHashMap;
import java.util.LinkedHashSet;
import java.util.List;
import java.util.Map;
import java.util.Set;
import javax.lang.model.element.Element;
import javax.lang.model.element.ElementKind;
import javax.lang.model.element.ExecutableElement;
import javax.lang.model.element.Modifier;
import javax.lang.model.element.TypeElement;
import javax.lang.model.element.VariableElement;
import javax.lang.model.type.ArrayType;
import javax.lang.model.type.TypeMirror;

/** Goes once through the compiler's trees of the class and notes what is outside LANGUAGE.md. */
final class SourceScan extends TreePathScanner<Void, Void> {
  private static final int MOST_PARAMETERS = 7;
  private static final int MOST_LINES = 60;
  private static final int MOST_FIELDS = 20;
  private static final int MOST_CLASSES = 12;
  // What the class uses of the library; rule 4 has more.
  private static final Set<String> LIBRARY = Set.of("java.lang.Math.max", "java.lang.Math.min",
      "java.lang.Integer.bitCount", "java.lang.Integer.numberOfTrailingZeros",
      "java.lang.Long.bitCount", "java.lang.System.arraycopy");
  private static final Set<String> NUMBERS =
      Set.of("int", "long", "short", "byte", "char", "boolean");
  private static final Set<Modifier> MODIFIERS =
      Set.of(Modifier.PUBLIC, Modifier.PRIVATE, Modifier.STATIC, Modifier.FINAL);
  // Besides constructors, what makes an object: a rule that is added, and its two ranges.
  private static final Set<String> MAKERS = Set.of("RuleText.makeRule", "Range.trimmed");

  final List<String> faults = new ArrayList<>();
  /** For each method and constructor of the file, what it calls. */
  final Map<String, Set<String>> calls = new LinkedHashMap<>();
  final Map<String, MethodTree> methods = new LinkedHashMap<>();
  private final Trees trees;
  private int classes = 0;
  private int loops = 0;
  private String method = "";

  SourceScan(Trees trees) { this.trees = trees; }

  private void fault(int rule, Tree tree, String words) {
    CompilationUnitTree unit = getCurrentPath().getCompilationUnit();
    faults.add("rule " + rule + ", line " + line(unit, tree, true) + ": " + words);
  }

  private long line(CompilationUnitTree unit, Tree tree, boolean first) {
    var positions = trees.getSourcePositions();
    long at = first ? positions.getStartPosition(unit, tree) : positions.getEndPosition(unit, tree);
    return unit.getLineMap().getLineNumber(at);
  }

  private void check(boolean holds, int rule, Tree tree, String otherwise) {
    if (!holds) fault(rule, tree, otherwise);
  }

  private Element element(Tree tree) { return trees.getElement(path(tree)); }

  private TypeMirror type(Tree tree) { return trees.getTypeMirror(path(tree)); }

  private TreePath path(Tree tree) { return new TreePath(getCurrentPath(), tree); }

  private void checkModifiers(ModifiersTree modifiers) {
    check(MODIFIERS.containsAll(modifiers.getFlags()), 6, modifiers, "" + modifiers);
    check(modifiers.getAnnotations().isEmpty(), 4, modifiers, "" + modifiers);
  }

  // ---- the file, classes, methods

  @Override public Void visitCompilationUnit(CompilationUnitTree unit, Void v) {
    check(unit.getPackage() == null, 1, unit, "there is a package line");
    check(unit.getImports().isEmpty(), 4, unit, "something is imported");
    check(unit.getTypeDecls().size() == 1, 1, unit, "there is more than one class of the file");
    super.visitCompilationUnit(unit, v);
    check(classes <= MOST_CLASSES, 11, unit, classes + " classes");
    return null;
  }

  @Override public Void visitClass(ClassTree tree, Void v) {
    classes++;
    checkModifiers(tree.getModifiers());
    Set<Modifier> modifiers = tree.getModifiers().getFlags();
    Tree parent = getCurrentPath().getParentPath().getLeaf();
    if (parent instanceof ClassTree) {
      check(modifiers.contains(Modifier.STATIC), 2, tree, tree.getSimpleName() + " is not static");
      check(modifiers.contains(Modifier.PRIVATE), 1, tree, tree.getSimpleName() + " can be seen");
    } else {
      check(parent instanceof CompilationUnitTree, 2, tree, "a local or anonymous class");
    }
    // So no constructor calls what another class could override.
    check(modifiers.contains(Modifier.FINAL), 12, tree, tree.getSimpleName() + " is not final");
    int fields = 0;
    for (Tree member : tree.getMembers()) {
      check(!(member instanceof BlockTree), 5, member, "an initialiser block");
      if (member instanceof VariableTree f && !isStatic(f)) fields++;
    }
    check(fields <= MOST_FIELDS, 11, tree, tree.getSimpleName() + " has " + fields + " fields");
    return super.visitClass(tree, v);
  }

  private static boolean isStatic(VariableTree tree) {
    return tree.getModifiers().getFlags().contains(Modifier.STATIC);
  }

  @Override public Void visitMethod(MethodTree tree, Void v) {
    Element self = trees.getElement(getCurrentPath());
    method = name(self);
    check(!methods.containsKey(method), 1, tree, "two methods are called " + method);
    methods.put(method, tree);
    calls.put(method, new LinkedHashSet<>());
    check(tree.getParameters().size() <= MOST_PARAMETERS, 11, tree, method + " takes too many");
    CompilationUnitTree unit = getCurrentPath().getCompilationUnit();
    long lines = line(unit, tree, false) - line(unit, tree, true) + 1;
    check(lines <= MOST_LINES, 11, tree, method + " has " + lines + " lines");
    checkModifiers(tree.getModifiers());
    check(tree.getThrows().isEmpty(), 6, tree, method + " throws");
    if (tree.getReturnType() != null) checkType(type(tree.getReturnType()), tree, true);
    super.visitMethod(tree, v);
    method = "";
    return null;
  }

  /** The simple name of its class and its own, as no two classes or methods share both. */
  static String name(Element e) {
    return e.getEnclosingElement().getSimpleName() + "." + e.getSimpleName();
  }

  // ---- types and fields

  @Override public Void visitVariable(VariableTree tree, Void v) {
    Element self = trees.getElement(getCurrentPath());
    checkType(self.asType(), tree, false);
    checkModifiers(tree.getModifiers());
    if (self.getKind() == ElementKind.FIELD && isStatic(tree)) {
      // Stricter than rule 5, which lets arrays be static, too.
      boolean constant = ((VariableElement) self).getConstantValue() != null;
      check(constant, 5, tree, tree.getName() + " is static, but no constant number");
    }
    return super.visitVariable(tree, v);
  }

  /** Numbers, own classes, and arrays of one dimension of these. */
  private void checkType(TypeMirror type, Tree tree, boolean orVoid) {
    String name = type.toString();
    if (type instanceof ArrayType array) name = array.getComponentType().toString();
    boolean fine = NUMBERS.contains(name) || name.startsWith("VersionResolver");
    check(fine || orVoid && name.equals("void"), 3, tree, "the type " + type);
  }

  // ---- calls and objects

  @Override public Void visitMethodInvocation(MethodInvocationTree tree, Void v) {
    ExecutableElement called = (ExecutableElement) element(tree.getMethodSelect());
    TypeElement owner = (TypeElement) called.getEnclosingElement();
    String full = owner.getQualifiedName() + "." + called.getSimpleName();
    boolean own = full.startsWith("VersionResolver");
    boolean ofObject = full.equals("java.lang.Object.<init>");
    check(own || ofObject || LIBRARY.contains(full), 4, tree, full + " of the library");
    if (!ofObject) calls.get(method).add(own ? name(called) : full);
    for (ExpressionTree argument : tree.getArguments()) {
      boolean self = argument.toString().equals("this");
      check(!self || !method.endsWith("<init>"), 12, tree, "a constructor hands out its object");
    }
    return super.visitMethodInvocation(tree, v);
  }

  @Override public Void visitNewClass(NewClassTree tree, Void v) {
    Element constructor = trees.getElement(getCurrentPath());
    check(tree.getClassBody() == null, 2, tree, "an anonymous class");
    String made = type(tree.getIdentifier()).toString();
    check(made.startsWith("VersionResolver."), 4, tree, "new " + made);
    calls.get(method).add(name(constructor));
    checkMaker(tree);
    return super.visitNewClass(tree, v);
  }

  @Override public Void visitNewArray(NewArrayTree tree, Void v) {
    check(tree.getDimensions().size() == 1 && tree.getInitializers() == null, 3, tree, "" + tree);
    checkMaker(tree);
    return super.visitNewArray(tree, v);
  }

  private void checkMaker(Tree tree) {
    boolean constructor = method.endsWith("<init>");
    check(constructor || MAKERS.contains(method), 12, tree, method + " makes an object");
    check(constructor || loops == 0, 12, tree, method + " makes objects in a loop");
  }

  // ---- what is not in the language

  @Override public Void visitLambdaExpression(LambdaExpressionTree tree, Void v) {
    fault(2, tree, "a lambda");
    return super.visitLambdaExpression(tree, v);
  }

  @Override public Void visitMemberReference(MemberReferenceTree tree, Void v) {
    fault(2, tree, "a method reference");
    return super.visitMemberReference(tree, v);
  }

  @Override public Void visitThrow(ThrowTree tree, Void v) {
    fault(6, tree, "throw");
    return super.visitThrow(tree, v);
  }

  @Override public Void visitTry(TryTree tree, Void v) {
    fault(6, tree, "try");
    return super.visitTry(tree, v);
  }

  @Override public Void visitSynchronized(SynchronizedTree tree, Void v) {
    fault(6, tree, "synchronized");
    return super.visitSynchronized(tree, v);
  }

  @Override public Void visitAssert(AssertTree tree, Void v) {
    fault(6, tree, "assert");
    return super.visitAssert(tree, v);
  }

  @Override public Void visitInstanceOf(InstanceOfTree tree, Void v) {
    fault(6, tree, "instanceof, which this scan does not follow");
    return super.visitInstanceOf(tree, v);
  }

  @Override public Void visitTypeCast(TypeCastTree tree, Void v) {
    String to = type(tree.getType()).toString();
    check(NUMBERS.contains(to), 6, tree, "a cast to " + to + ", which this scan does not follow");
    return super.visitTypeCast(tree, v);
  }

  @Override public Void visitLiteral(LiteralTree tree, Void v) {
    boolean other = tree.getValue() instanceof String || tree.getValue() instanceof Double
        || tree.getValue() instanceof Float;
    check(!other, 3, tree, "a text or a fraction, which this scan does not follow");
    return super.visitLiteral(tree, v);
  }

  // ---- divisors

  @Override public Void visitBinary(BinaryTree tree, Void v) {
    if (tree.getKind() == Tree.Kind.DIVIDE || tree.getKind() == Tree.Kind.REMAINDER) {
      checkDivisor(tree.getRightOperand());
    }
    return super.visitBinary(tree, v);
  }

  @Override public Void visitCompoundAssignment(CompoundAssignmentTree tree, Void v) {
    Tree.Kind kind = tree.getKind();
    if (kind == Tree.Kind.DIVIDE_ASSIGNMENT || kind == Tree.Kind.REMAINDER_ASSIGNMENT) {
      checkDivisor(tree.getExpression());
    }
    return super.visitCompoundAssignment(tree, v);
  }

  /** Only constants other than 0 divide here. */
  private void checkDivisor(ExpressionTree tree) {
    Object value = null;
    if (tree instanceof LiteralTree literal) value = literal.getValue();
    if (element(tree) instanceof VariableElement variable) value = variable.getConstantValue();
    boolean fine = value instanceof Number n && n.longValue() != 0;
    check(fine, 7, tree, "a divisor that is no constant");
  }

  // ---- loops

  /** A for loop here counts one variable up or down against a bound of its own condition. */
  @Override public Void visitForLoop(ForLoopTree tree, Void v) {
    boolean counts = tree.getInitializer().size() == 1 && tree.getUpdate().size() == 1
        && tree.getInitializer().get(0) instanceof VariableTree;
    check(counts, 9, tree, "a loop without a counter");
    if (counts) {
      String counter = ((VariableTree) tree.getInitializer().get(0)).getName().toString();
      String condition = String.valueOf(tree.getCondition());
      check(condition.matches("(.*\\W)?" + counter + "( \\+ 1)? (<|<=|>|>=) .*"), 9, tree,
          "a loop whose counter " + counter + " has no bound");
      check(!assigns(tree.getStatement(), counter), 9, tree, counter + " is set within its loop");
    }
    loops++;
    super.visitForLoop(tree, v);
    loops--;
    return null;
  }

  private static boolean assigns(Tree body, String counter) {
    return body.toString().matches("(?s).*\\b" + counter + "( [-+*/|&]?= |\\+\\+|--).*");
  }

  /** A while loop here ends at a bound that a step of its own body comes nearer to. */
  @Override public Void visitWhileLoop(WhileLoopTree tree, Void v) {
    String condition = tree.getCondition().toString();
    String body = tree.getStatement().toString();
    boolean down = condition.startsWith("(place > 0 && ") && body.contains("place--;");
    boolean up = condition.startsWith("(at >= 0 && at < used && ") && body.contains("at++;");
    check(down || up, 9, tree, "a while loop that this scan does not know: " + condition);
    loops++;
    super.visitWhileLoop(tree, v);
    loops--;
    return null;
  }

  @Override public Void visitDoWhileLoop(DoWhileLoopTree tree, Void v) {
    fault(9, tree, "a do loop, which this scan does not follow");
    return super.visitDoWhileLoop(tree, v);
  }

  @Override public Void visitEnhancedForLoop(EnhancedForLoopTree tree, Void v) {
    fault(9, tree, "a for loop over something, which this scan does not follow");
    return super.visitEnhancedForLoop(tree, v);
  }

  /** Whether a method begins with an if that returns, which keeps a recursion low. */
  static boolean beginsWithGuard(MethodTree tree) {
    return tree.getBody() != null && !tree.getBody().getStatements().isEmpty()
        && tree.getBody().getStatements().get(0) instanceof IfTree guard
        && guard.getThenStatement().toString().contains("return");
  }
}
