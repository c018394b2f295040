import com.sun.source.tree.*;
import com.sun.source.util.JavacTask;
import com.sun.source.util.SourcePositions;
import com.sun.source.util.TreePathScanner;
import com.sun.source.util.Trees;
import java.nio.file.Path;
import java.util.ArrayDeque;
import java.util.EnumSet;
import java.util.List;
import java.util.Map;
import java.util.Set;
import java.util.TreeMap;
import java.util.TreeSet;
import javax.lang.model.element.Element;
import javax.lang.model.element.ElementKind;
import javax.lang.model.element.Modifier;
import javax.lang.model.element.TypeElement;
import javax.lang.model.type.TypeKind;
import javax.lang.model.type.TypeMirror;
import javax.tools.JavaCompiler;
import javax.tools.StandardJavaFileManager;
import javax.tools.ToolProvider;

/** The rules of LANGUAGE.md that the compiler's own tree of the class can tell, each named by its number. */
public final class LandUnionsLanguage extends TreePathScanner<Void, Void> {
  private static final int MOST_LINES = 60, MOST_PARAMETERS = 7, MOST_DEPTH = 8, MOST_CLASSES = 12, MOST_FIELDS = 20;

  /** The kinds of tree that the class has no need of: rules 2, 6 and 10 rule them out, or it does without. */
  private static final Set<Tree.Kind> RULED_OUT = EnumSet.of(
    Tree.Kind.LAMBDA_EXPRESSION, Tree.Kind.MEMBER_REFERENCE, Tree.Kind.THROW, Tree.Kind.TRY, Tree.Kind.CATCH,
    Tree.Kind.SYNCHRONIZED, Tree.Kind.ASSERT, Tree.Kind.SWITCH_EXPRESSION, Tree.Kind.YIELD, Tree.Kind.IMPORT, Tree.Kind.PACKAGE,
    Tree.Kind.WHILE_LOOP, Tree.Kind.DO_WHILE_LOOP, Tree.Kind.TYPE_CAST, Tree.Kind.INSTANCE_OF, Tree.Kind.ANNOTATION,
    Tree.Kind.STRING_LITERAL, Tree.Kind.DOUBLE_LITERAL, Tree.Kind.FLOAT_LITERAL, Tree.Kind.NULL_LITERAL);
  private static final Set<String> LIBRARY = Set.of("Math.max", "Math.min");
  private static final Set<String> TYPES = Set.of("int", "boolean", "int[]");

  private final CompilationUnitTree unit;
  private final Trees trees;
  private final Map<String, Set<String>> calls = new TreeMap<>();
  private final ArrayDeque<String> methods = new ArrayDeque<>();
  private int classes = 0;
  private int wrong = 0;

  private LandUnionsLanguage(CompilationUnitTree unit, Trees trees) {
    this.unit = unit;
    this.trees = trees;
  }

  private long line(Tree t) {
    return unit.getLineMap().getLineNumber(trees.getSourcePositions().getStartPosition(unit, t));
  }

  private void check(boolean right, int rule, Tree at, String what) {
    if (!right) {
      wrong++;
      System.out.println("rule " + rule + ", line " + line(at) + ": " + what);
    }
  }

  private Element here() {
    return trees.getElement(getCurrentPath());
  }

  private static boolean own(Element e) {
    Element outer = e;
    while (outer != null && outer.getEnclosingElement() != null && outer.getEnclosingElement().getKind() != ElementKind.PACKAGE) {
      outer = outer.getEnclosingElement();
    }
    return outer != null && outer.getSimpleName().contentEquals("LandUnions");
  }

  private static String name(Element method) {
    return method.getEnclosingElement().getSimpleName() + "." + method.getSimpleName();
  }

  @Override public Void scan(Tree t, Void v) {
    if (t != null && RULED_OUT.contains(t.getKind())) check(false, 6, t, "ruled out: " + t.getKind());
    return super.scan(t, v);
  }

  @Override public Void visitClass(ClassTree t, Void v) {
    Element e = here();
    boolean outermost = e.getEnclosingElement().getKind() == ElementKind.PACKAGE;
    Set<Modifier> mods = e.getModifiers();
    check(!t.getSimpleName().isEmpty(), 2, t, "an anonymous class");
    check(e.getKind() == ElementKind.CLASS && ((TypeElement) e).getInterfaces().isEmpty(), 2, t, "not a plain class");
    check(outermost ? mods.contains(Modifier.PUBLIC) && mods.contains(Modifier.FINAL) : mods.contains(Modifier.STATIC), 2, t, "not static");
    int fields = 0;
    for (Tree m : t.getMembers()) {
      check(m.getKind() != Tree.Kind.BLOCK, 5, m, "an initialiser block");
      if (m instanceof VariableTree && !((VariableTree) m).getModifiers().getFlags().contains(Modifier.STATIC)) fields++;
    }
    check(fields <= MOST_FIELDS, 11, t, "fields: " + fields);
    classes++;
    check(classes <= MOST_CLASSES, 11, t, "too many classes");
    return super.visitClass(t, v);
  }

  @Override public Void visitMethod(MethodTree t, Void v) {
    SourcePositions places = trees.getSourcePositions();
    long begin = places.getStartPosition(unit, t);
    if (begin < 0) return null;
    long lines = unit.getLineMap().getLineNumber(places.getEndPosition(unit, t)) - line(t) + 1;
    check(lines <= MOST_LINES, 11, t, "lines: " + lines);
    check(t.getParameters().size() <= MOST_PARAMETERS, 11, t, "parameters: " + t.getParameters().size());
    String me = name(here());
    check(me.contains("<init>") || calls.put(me, new TreeSet<>()) == null, 8, t, "two methods of one name: the depth is not told apart");
    methods.push(me);
    super.visitMethod(t, v);
    methods.pop();
    return null;
  }

  @Override public Void visitVariable(VariableTree t, Void v) {
    Element e = here();
    TypeMirror type = e.asType();
    boolean plain = TYPES.contains(type.toString()) || type.getKind() == TypeKind.DECLARED && own(trees.getElement(com.sun.source.util.TreePath.getPath(unit, t.getType())));
    check(plain, 3, t, "type: " + type);
    if (e.getModifiers().contains(Modifier.STATIC)) {
      check(e.getModifiers().contains(Modifier.FINAL), 5, t, "static, but not final");
      boolean writtenOut = t.getInitializer() instanceof NewArrayTree && ((NewArrayTree) t.getInitializer()).getInitializers() != null;
      check(type.getKind() == TypeKind.INT || writtenOut, 5, t, "neither a number nor a row written out");
    }
    return super.visitVariable(t, v);
  }

  @Override public Void visitMethodInvocation(MethodInvocationTree t, Void v) {
    Element called = here();
    if (own(called)) {
      if (!methods.isEmpty() && calls.containsKey(methods.peek())) calls.get(methods.peek()).add(name(called));
    } else if (called.getKind() == ElementKind.METHOD) {
      check(LIBRARY.contains(name(called)), 4, t, "library: " + name(called));
    }
    return super.visitMethodInvocation(t, v);
  }

  @Override public Void visitNewClass(NewClassTree t, Void v) {
    check(methods.isEmpty(), 12, t, "an object made by a call");
    return super.visitNewClass(t, v);
  }

  @Override public Void visitNewArray(NewArrayTree t, Void v) {
    check(methods.isEmpty(), 12, t, "a row made by a call");
    return super.visitNewArray(t, v);
  }

  @Override public Void visitForLoop(ForLoopTree t, Void v) {
    boolean counts = t.getCondition() != null && t.getInitializer().size() == 1 && t.getUpdate().size() == 1;
    check(counts, 9, t, "a loop without a counter against a bound");
    return super.visitForLoop(t, v);
  }

  /** A row of constants may be read alone. */
  @Override public Void visitAssignment(AssignmentTree t, Void v) {
    if (t.getVariable() instanceof ArrayAccessTree) {
      Tree row = ((ArrayAccessTree) t.getVariable()).getExpression();
      Element e = trees.getElement(com.sun.source.util.TreePath.getPath(unit, row));
      check(e == null || !e.getModifiers().contains(Modifier.STATIC), 5, t, "a constant's row is changed");
    }
    return super.visitAssignment(t, v);
  }

  /** How many calls stand open at once, at most; a round of calls would be a recursion. */
  private int depth(String method, Set<String> open, Map<String, Integer> known) {
    if (known.containsKey(method)) return known.get(method);
    if (!open.add(method)) {
      wrong++;
      System.out.println("rule 8: a recursion through " + method);
      return 0;
    }
    int most = 0;
    for (String next : calls.getOrDefault(method, Set.of())) most = Math.max(most, depth(next, open, known));
    open.remove(method);
    known.put(method, most + 1);
    return most + 1;
  }

  private void depths() {
    Map<String, Integer> known = new TreeMap<>();
    for (String method : calls.keySet()) {
      int deep = depth(method, new TreeSet<>(), known);
      if (deep > MOST_DEPTH) {
        wrong++;
        System.out.println("rule 11: " + method + " goes " + deep + " deep");
      }
    }
  }

  public static void main(String[] args) throws Exception {
    String file = args.length > 0 ? args[0] : "src/main/java/LandUnions.java";
    JavaCompiler compiler = ToolProvider.getSystemJavaCompiler();
    try (StandardJavaFileManager files = compiler.getStandardFileManager(null, null, null)) {
      JavacTask task = (JavacTask) compiler.getTask(null, files, null, List.of("-proc:none"), null, files.getJavaFileObjects(Path.of(file)));
      CompilationUnitTree unit = task.parse().iterator().next();
      task.analyze();
      LandUnionsLanguage rules = new LandUnionsLanguage(unit, Trees.instance(task));
      rules.scan(unit, null);
      rules.depths();
      System.out.println(rules.wrong == 0 ? "the rules that the tree tells are kept" : rules.wrong + " are not as due");
      if (rules.wrong != 0) System.exit(1);
    }
  }
}
