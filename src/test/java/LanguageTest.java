import com.sun.source.tree.BinaryTree;
import com.sun.source.tree.ClassTree;
import com.sun.source.tree.CompilationUnitTree;
import com.sun.source.tree.MethodInvocationTree;
import com.sun.source.tree.MethodTree;
import com.sun.source.tree.NewArrayTree;
import com.sun.source.tree.NewClassTree;
import com.sun.source.tree.Tree;
import com.sun.source.tree.VariableTree;
import com.sun.source.util.JavacTask;
import com.sun.source.util.TreePath;
import com.sun.source.util.TreePathScanner;
import com.sun.source.util.Trees;
import java.io.File;
import java.nio.file.Files;
import java.nio.file.Path;
import java.util.HashMap;
import java.util.HashSet;
import java.util.List;
import java.util.Map;
import java.util.Set;
import javax.lang.model.element.Element;
import javax.lang.model.element.ElementKind;
import javax.lang.model.element.Modifier;
import javax.lang.model.type.TypeMirror;
import javax.tools.JavaCompiler;
import javax.tools.JavaFileObject;
import javax.tools.StandardJavaFileManager;
import javax.tools.ToolProvider;

/** Those rules of LANGUAGE.md that can be seen by the compiler's own trees: what calls what, how deep, how long. */
public final class LanguageTest {
  private static final int DEEPEST = 8;
  private static final int LONGEST = 60;
  private static final int MOST_PARAMETERS = 7;
  private static final int MOST_CLASSES = 12;
  private static final Set<String> LIBRARY = Set.of("java.lang.String.length", "java.lang.String.charAt",
      "java.lang.String.isEmpty", "java.lang.String.indexOf", "java.lang.Integer.bitCount", "java.lang.Math.min",
      "java.lang.Math.max", "java.lang.Math.abs", "java.lang.Object.<init>");
  private static final Set<String> STATIC_TYPES = Set.of("int", "long", "boolean", "char", "java.lang.String");

  private final Check check = new Check();
  private final Map<Element, Set<Element>> calls = new HashMap<>();
  private final Map<Element, Integer> depths = new HashMap<>();
  private final Set<String> publicNames = new HashSet<>();
  private final Set<String> privateNames = new HashSet<>();
  private int classes;

  public static void main(String[] args) throws Exception {
    LanguageTest test = new LanguageTest();
    test.look(new File("src/main/java/BridgeByTwo.java"));
    test.lines(Path.of("src/main/java/BridgeByTwo.java"));
    test.check.end("LanguageTest");
  }

  private void look(File file) throws Exception {
    JavaCompiler compiler = ToolProvider.getSystemJavaCompiler();
    try (StandardJavaFileManager files = compiler.getStandardFileManager(null, null, null)) {
      Iterable<? extends JavaFileObject> sources = files.getJavaFileObjects(file);
      JavacTask task = (JavacTask) compiler.getTask(null, files, null, List.of("-proc:none"), null, sources);
      CompilationUnitTree unit = task.parse().iterator().next();
      task.analyze();
      new Looker(Trees.instance(task), unit).scan(unit, null);
    }
    check.so(classes + " classes", classes <= MOST_CLASSES);
    for (String name : privateNames) {
      check.so("rule 1: private " + name + " bears the name of a public one", !publicNames.contains(name));
    }
    for (Element method : calls.keySet()) {
      int depth = depthOf(method, new HashSet<>());
      check.so("rule 11: " + method + " goes " + depth + " deep", depth <= DEEPEST);
    }
    check.so("all methods were seen", calls.size() > 42);
  }

  /** How many of the program's methods stand open at once at most, the told one counted; the program has no recursion. */
  private int depthOf(Element method, Set<Element> open) {
    if (depths.containsKey(method)) {
      return depths.get(method);
    }
    open.add(method);
    int deepest = 0;
    for (Element called : calls.getOrDefault(method, Set.of())) {
      boolean isOpen = open.contains(called);
      check.so("rule 8: " + called + " calls itself without a guard", !isOpen);
      if (!isOpen) {
        deepest = Math.max(deepest, depthOf(called, open));
      }
    }
    open.remove(method);
    depths.put(method, deepest + 1);
    return deepest + 1;
  }

  private void lines(Path file) throws Exception {
    for (String line : Files.readAllLines(file)) {
      check.so("over 120 signs: " + line, line.length() <= 120);
    }
  }

  /** Goes through the trees. */
  private final class Looker extends TreePathScanner<Void, Void> {
    private final Trees trees;
    private final CompilationUnitTree unit;
    private Element method;

    Looker(Trees trees, CompilationUnitTree unit) {
      this.trees = trees;
      this.unit = unit;
    }

    private Element elementOf(Tree tree) {
      return trees.getElement(new TreePath(getCurrentPath(), tree));
    }

    private boolean isText(Tree tree) {
      TypeMirror type = trees.getTypeMirror(new TreePath(getCurrentPath(), tree));
      return type != null && type.toString().equals("java.lang.String");
    }

    @Override public Void visitClass(ClassTree tree, Void none) {
      classes++;
      Element self = trees.getElement(getCurrentPath());
      Element around = self.getEnclosingElement();
      check.so("rule 2: " + self + " stands in a method", around.getKind() != ElementKind.METHOD);
      check.so("rule 2: " + self + " is static", around.getKind() == ElementKind.PACKAGE
          || self.getModifiers().contains(Modifier.STATIC));
      return super.visitClass(tree, none);
    }

    @Override public Void visitMethod(MethodTree tree, Void none) {
      method = trees.getElement(getCurrentPath());
      calls.putIfAbsent(method, new HashSet<>());
      check.so("rule 11: parameters of " + method, tree.getParameters().size() <= MOST_PARAMETERS);
      check.so("rule 11: " + method + " is long", lineOf(tree, false) - lineOf(tree, true) < LONGEST);
      boolean isPrivate = method.getModifiers().contains(Modifier.PRIVATE);
      boolean isPublic = method.getModifiers().contains(Modifier.PUBLIC);
      if (method.getKind() == ElementKind.METHOD && (isPublic || isPrivate)) {
        (isPrivate ? privateNames : publicNames).add(tree.getName().toString());
      }
      super.visitMethod(tree, none);
      method = null;
      return null;
    }

    private long lineOf(Tree tree, boolean start) {
      long place = start ? trees.getSourcePositions().getStartPosition(unit, tree)
          : trees.getSourcePositions().getEndPosition(unit, tree);
      return unit.getLineMap().getLineNumber(place);
    }

    @Override public Void visitMethodInvocation(MethodInvocationTree tree, Void none) {
      Element called = elementOf(tree.getMethodSelect());
      String owner = called.getEnclosingElement().toString();
      if (owner.startsWith("BridgeByTwo")) {
        boolean isInMethod = method != null && method.getKind() == ElementKind.METHOD;
        check.so("rule 12: a constructor calls " + called, isInMethod);
        if (isInMethod) {
          calls.get(method).add(called);
        }
      } else {
        String name = owner + "." + called.getSimpleName();
        check.so("rule 4: " + name, LIBRARY.contains(name));
      }
      return super.visitMethodInvocation(tree, none);
    }

    @Override public Void visitNewClass(NewClassTree tree, Void none) {
      check.so("made in a call: " + tree, isInConstructor());
      return super.visitNewClass(tree, none);
    }

    @Override public Void visitNewArray(NewArrayTree tree, Void none) {
      check.so("made in a call: " + tree, isInConstructor());
      return super.visitNewArray(tree, none);
    }

    /** Rule 12 leaves more than this: but no call of this program makes an object, so that the room is never full. */
    private boolean isInConstructor() {
      return method == null || method.getKind() == ElementKind.CONSTRUCTOR;
    }

    @Override public Void visitVariable(VariableTree tree, Void none) {
      Element variable = trees.getElement(getCurrentPath());
      if (variable.getModifiers().contains(Modifier.STATIC)) {
        check.so("rule 5: " + variable + " is final", variable.getModifiers().contains(Modifier.FINAL));
        check.so("rule 5: type of " + variable, STATIC_TYPES.contains(variable.asType().toString()));
      }
      return super.visitVariable(tree, none);
    }

    @Override public Void visitBinary(BinaryTree tree, Void none) {
      boolean ofText = isText(tree.getLeftOperand()) || isText(tree.getRightOperand());
      check.so("rules 6, 10: " + tree, !ofText);
      return super.visitBinary(tree, none);
    }
  }
}
