import com.sun.source.tree.AssertTree;
import com.sun.source.tree.BinaryTree;
import com.sun.source.tree.ClassTree;
import com.sun.source.tree.CompilationUnitTree;
import com.sun.source.tree.CompoundAssignmentTree;
import com.sun.source.tree.ImportTree;
import com.sun.source.tree.LambdaExpressionTree;
import com.sun.source.tree.LineMap;
import com.sun.source.tree.MemberReferenceTree;
import com.sun.source.tree.MethodInvocationTree;
import com.sun.source.tree.MethodTree;
import com.sun.source.tree.NewArrayTree;
import com.sun.source.tree.NewClassTree;
import com.sun.source.tree.SynchronizedTree;
import com.sun.source.tree.ThrowTree;
import com.sun.source.tree.Tree;
import com.sun.source.tree.TryTree;
import com.sun.source.tree.TypeCastTree;
import com.sun.source.tree.VariableTree;
import com.sun.source.util.JavacTask;
import com.sun.source.util.SourcePositions;
import com.sun.source.util.TreePath;
import com.sun.source.util.TreePathScanner;
import com.sun.source.util.Trees;
import java.nio.file.Files;
import java.nio.file.Path;
import java.util.Arrays;
import java.util.HashSet;
import java.util.Map;
import java.util.Set;
import java.util.TreeMap;
import java.util.TreeSet;
import javax.lang.model.element.Element;
import javax.lang.model.element.ElementKind;
import javax.lang.model.element.Modifier;
import javax.lang.model.element.VariableElement;
import javax.lang.model.type.TypeMirror;
import javax.tools.JavaCompiler;
import javax.tools.StandardJavaFileManager;
import javax.tools.ToolProvider;

/** The rules of LANGUAGE.md, held against the program's source as the compiler understands it. */
public final class LanguageRules {
  private static final Path SOURCE = Path.of("src/main/java/CoalHoles.java");
  private static final int LINES = 60, DEEP = 8, PARAMETERS = 7;
  private static final Set<String> LIBRARY = new HashSet<>(Arrays.asList("java.lang.String.length",
      "java.lang.String.charAt", "java.lang.String.isEmpty", "java.lang.String.equals", "java.lang.String.indexOf",
      "java.lang.String.substring", "java.lang.String.toCharArray", "java.lang.Math.max", "java.lang.Math.min",
      "java.lang.Math.abs", "java.lang.Integer.bitCount", "java.lang.System.arraycopy", "java.util.Arrays.copyOf",
      "java.util.Arrays.copyOfRange", "java.util.Arrays.fill", "Array.clone"));
  private static final Set<String> PLAIN_TYPES = new HashSet<>(Arrays.asList("int", "long", "short", "byte", "char",
      "boolean", "java.lang.String"));
  /** All else is made in constructors and used again: a run has one room for all that its calls make. */
  private static final Set<String> MAKERS = new HashSet<>(Arrays.asList("Reader.asText"));

  private static int wrong = 0;

  private static void hold(int rule, String what, boolean holds) {
    if (!holds) {
      wrong++;
      System.out.println("rule " + rule + " does not hold: " + what);
    }
  }

  public static void main(String[] args) throws Exception {
    JavaCompiler compiler = ToolProvider.getSystemJavaCompiler();
    try (StandardJavaFileManager files = compiler.getStandardFileManager(null, null, null)) {
      JavacTask task = (JavacTask) compiler.getTask(null, files, null, Arrays.asList("--release", "17", "-proc:none"),
          null, files.getJavaFileObjects(SOURCE));
      CompilationUnitTree unit = task.parse().iterator().next();
      task.analyze();
      Walk walk = new Walk(Trees.instance(task), unit);
      walk.scan(unit, null);
      depths(walk.calls);
    }
    hold(4, "signs 1 to 127 alone", Files.readString(SOURCE).chars().allMatch(c -> c == '\n' || c >= ' ' && c < 127));
    System.out.println(wrong == 0 ? "all rules hold" : wrong + " rules do not hold");
    if (wrong != 0) {
      System.exit(1);
    }
  }

  private static void depths(Map<String, Set<String>> calls) {
    for (String method : calls.keySet()) {
      hold(11, "calls at most eight deep from " + method, depth(calls, method, 0) <= DEEP);
    }
  }

  /** How many stand open at most from a method on; a recursion is deeper than any bound. */
  private static int depth(Map<String, Set<String>> calls, String method, int above) {
    int most = 0;
    for (String next : above > DEEP ? Set.<String>of() : calls.getOrDefault(method, Set.of())) {
      most = Math.max(most, depth(calls, next, above + 1));
    }
    return 1 + most;
  }

  /** Goes through the source once: tells what breaks a rule, and gathers which method calls which. */
  private static final class Walk extends TreePathScanner<Void, Void> {
    final Map<String, Set<String>> calls = new TreeMap<>();
    private final Trees trees;
    private final CompilationUnitTree unit;
    private final SourcePositions positions;
    private final LineMap lines;
    private String type = "";
    private String method = "";

    Walk(Trees trees, CompilationUnitTree unit) {
      this.trees = trees;
      this.unit = unit;
      this.positions = trees.getSourcePositions();
      this.lines = unit.getLineMap();
    }

    private long line(Tree tree) {
      return lines.getLineNumber(positions.getStartPosition(unit, tree));
    }

    private void refuse(int rule, String what, Tree tree) {
      hold(rule, "line " + line(tree) + ": " + what, false);
    }

    private Element element() {
      return trees.getElement(getCurrentPath());
    }

    private boolean isOwn(Element owner) {
      return owner.toString().equals("CoalHoles") || owner.toString().startsWith("CoalHoles.");
    }

    private String typeOf(Tree tree) {
      TypeMirror mirror = trees.getTypeMirror(new TreePath(getCurrentPath(), tree));
      return mirror == null ? "" : mirror.toString();
    }

    private boolean isAllowed(String type) {
      String of = type.endsWith("[]") ? type.substring(0, type.length() - 2) : type;
      return PLAIN_TYPES.contains(of) || of.startsWith("CoalHoles");
    }

    @Override public Void visitImport(ImportTree tree, Void none) {
      String name = tree.getQualifiedIdentifier().toString();
      hold(4, "import " + name, name.matches("java\\.util\\.(Arrays|ArrayList|List)"));
      return null;
    }

    @Override public Void visitClass(ClassTree tree, Void none) {
      Element element = element();
      String was = type;
      type = tree.getSimpleName().toString();
      if (getCurrentPath().getParentPath().getLeaf().getKind() != Tree.Kind.COMPILATION_UNIT) {
        hold(2, type + " stands right inside a class", element.getEnclosingElement().getKind().isClass());
        hold(2, type + " is static", element.getModifiers().contains(Modifier.STATIC));
      }
      for (Tree member : tree.getMembers()) {
        hold(5, type + " has no initialiser block", member.getKind() != Tree.Kind.BLOCK);
      }
      super.visitClass(tree, none);
      type = was;
      return null;
    }

    @Override public Void visitMethod(MethodTree tree, Void none) {
      method = type + "." + tree.getName();
      calls.computeIfAbsent(method, m -> new TreeSet<>());
      long last = lines.getLineNumber(positions.getEndPosition(unit, tree));
      hold(11, method + " has at most sixty lines", last - line(tree) < LINES);
      hold(11, method + " takes at most seven", tree.getParameters().size() <= PARAMETERS);
      super.visitMethod(tree, none);
      method = "";
      return null;
    }

    @Override public Void visitVariable(VariableTree tree, Void none) {
      Element element = element();
      hold(3, "line " + line(tree) + ": " + element.asType() + " " + tree.getName(),
          isAllowed(element.asType().toString()));
      if (element.getKind() == ElementKind.FIELD && element.getModifiers().contains(Modifier.STATIC)) {
        hold(5, tree.getName() + " is final", element.getModifiers().contains(Modifier.FINAL));
        boolean writtenOut = tree.getInitializer() instanceof NewArrayTree
            && ((NewArrayTree) tree.getInitializer()).getInitializers() != null;
        boolean constant = ((VariableElement) element).getConstantValue() != null;
        hold(5, tree.getName() + " is a constant or an array written out", writtenOut || constant);
      }
      return super.visitVariable(tree, none);
    }

    @Override public Void visitMethodInvocation(MethodInvocationTree tree, Void none) {
      Element called = element();
      String name = called.getSimpleName().toString();
      Element owner = called.getEnclosingElement();
      if (isOwn(owner)) {
        if (!name.equals("<init>")) {
          calls.computeIfAbsent(method, m -> new TreeSet<>()).add(owner.getSimpleName() + "." + name);
        }
      } else if (!name.equals("<init>")) {
        hold(4, "line " + line(tree) + ": " + owner + "." + name, LIBRARY.contains(owner + "." + name));
      }
      return super.visitMethodInvocation(tree, none);
    }

    @Override public Void visitNewClass(NewClassTree tree, Void none) {
      Element owner = element().getEnclosingElement();
      hold(2, "line " + line(tree) + ": no anonymous class", tree.getClassBody() == null);
      hold(4, "line " + line(tree) + ": new " + owner, isOwn(owner));
      calls.computeIfAbsent(method, m -> new TreeSet<>()).add(owner.getSimpleName() + ".<init>");
      holdMaker(tree);
      return super.visitNewClass(tree, none);
    }

    @Override public Void visitNewArray(NewArrayTree tree, Void none) {
      holdMaker(tree);
      return super.visitNewArray(tree, none);
    }

    private void holdMaker(Tree tree) {
      hold(12, "line " + line(tree) + ": " + method + " makes nothing",
          method.isEmpty() || method.endsWith(".<init>") || MAKERS.contains(method));
    }

    @Override public Void visitTypeCast(TypeCastTree tree, Void none) {
      hold(6, "line " + line(tree) + ": a cast of a number", PLAIN_TYPES.contains(typeOf(tree.getType())));
      return super.visitTypeCast(tree, none);
    }

    @Override public Void visitBinary(BinaryTree tree, Void none) {
      boolean texts = typeOf(tree.getLeftOperand()).equals("java.lang.String")
          || typeOf(tree.getRightOperand()).equals("java.lang.String");
      hold(10, "line " + line(tree) + ": no sign between texts", !texts);
      return super.visitBinary(tree, none);
    }

    @Override public Void visitCompoundAssignment(CompoundAssignmentTree tree, Void none) {
      hold(10, "line " + line(tree) + ": no sign between texts",
          !typeOf(tree.getVariable()).equals("java.lang.String"));
      return super.visitCompoundAssignment(tree, none);
    }

    @Override public Void visitLambdaExpression(LambdaExpressionTree tree, Void none) {
      refuse(2, "a lambda", tree);
      return null;
    }

    @Override public Void visitMemberReference(MemberReferenceTree tree, Void none) {
      refuse(2, "a method reference", tree);
      return null;
    }

    @Override public Void visitThrow(ThrowTree tree, Void none) {
      refuse(6, "throw", tree);
      return null;
    }

    @Override public Void visitTry(TryTree tree, Void none) {
      refuse(6, "try", tree);
      return null;
    }

    @Override public Void visitSynchronized(SynchronizedTree tree, Void none) {
      refuse(6, "synchronized", tree);
      return null;
    }

    @Override public Void visitAssert(AssertTree tree, Void none) {
      refuse(6, "assert", tree);
      return null;
    }
  }
}
