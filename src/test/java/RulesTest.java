import com.sun.source.tree.ClassTree;
import com.sun.source.tree.CompilationUnitTree;
import com.sun.source.tree.LambdaExpressionTree;
import com.sun.source.tree.MemberReferenceTree;
import com.sun.source.tree.MethodInvocationTree;
import com.sun.source.tree.MethodTree;
import com.sun.source.tree.NewClassTree;
import com.sun.source.tree.Tree;
import com.sun.source.util.JavacTask;
import com.sun.source.util.TreePathScanner;
import com.sun.source.util.Trees;
import java.io.IOException;
import java.lang.reflect.Field;
import java.lang.reflect.Method;
import java.lang.reflect.Modifier;
import java.nio.file.Files;
import java.nio.file.Path;
import java.util.Arrays;
import java.util.HashMap;
import java.util.HashSet;
import java.util.LinkedHashSet;
import java.util.List;
import java.util.Map;
import java.util.Set;
import java.util.TreeSet;
import java.util.regex.Matcher;
import java.util.regex.Pattern;
import javax.lang.model.element.Element;
import javax.tools.JavaCompiler;
import javax.tools.StandardJavaFileManager;
import javax.tools.ToolProvider;

// The face of the class, and those rules of LANGUAGE.md that can be seen in its text or by reflection.
public final class RulesTest {
  private static final String[] FACE = {
      "int heat(int)", "int now(int)", "int person(int)", "int of(int,int)", "int set(int,int,int)", "int would(int,int,int)",
      "int turn(int,int)", "int as(int,int)", "int garment(int,int)", "int garmentOf(int,int)", "int sew(int,int,int)",
      "int weeks(int)", "int on(int,int,int)", "int then(int,int)", "int lost(int)", "int comes(int,int)", "int mark(int,int)",
      "int kind(int,int)", "int warmest(int,int)", "int plain(int,int)", "int teach(int)", "int best(int)", "int feed(int,int)",
      "int wipe()", "int home()", "int sheet(int,int,int)", "long write(int,int,long)", "int copy(int,int,int,int,int)",
      "int lays(int)", "int book(int,int)", "int read(int,int)", "int image()", "int undo()", "int tear()", "int count(int)",
      "int status(int)"};
  private static final String[] FORBIDDEN = {
      "\\bthrow\\b", "\\bthrows\\b", "\\btry\\b", "\\bcatch\\b", "\\bsynchronized\\b", "\\bassert\\b", "->", "::", "\\bimport\\b",
      "\\bpackage\\b", "\\bprotected\\b", "\\brecord\\b", "\\bSystem\\.(?!arraycopy\\b)", "\\bThread\\b", "\\w+Exact\\b",
      "\\bstatic\\s*\\{", "\\bhashCode\\b", "\\btoString\\b", "\\bequals\\b", "\\bObject\\b"};
  /** Rule 4, as far as the class uses it; another call of the library must be looked up there before it is added here. */
  private static final Set<String> LIBRARY = Set.of("String.length", "String.charAt", "Math.max", "Math.min", "Integer.bitCount",
      "System.arraycopy");
  private static final int DEEPEST = 8;
  private static int wrong = 0;

  private static void must(boolean holds, String what) {
    if (!holds) {
      wrong++;
      System.out.println(what);
    }
  }

  private static String told(Method m) {
    StringBuilder b = new StringBuilder(m.getReturnType().getName()).append(' ').append(m.getName()).append('(');
    for (int i = 0; i < m.getParameterCount(); i++) b.append(i > 0 ? "," : "").append(m.getParameterTypes()[i].getName());
    return b.append(')').toString();
  }

  private static void face() {
    Class<?> c = CollarNames.class;
    must(Modifier.isPublic(c.getModifiers()) && Modifier.isFinal(c.getModifiers()), "the class isn't public and final");
    must(c.getDeclaredConstructors().length == 1 && c.getConstructors().length == 1, "another constructor");
    Set<String> open = new TreeSet<>();
    for (Method m : c.getDeclaredMethods()) {
      if (Modifier.isPublic(m.getModifiers()) && !Modifier.isStatic(m.getModifiers())) open.add(told(m));
      else must(Modifier.isPrivate(m.getModifiers()), "neither of the face nor private: " + told(m));
    }
    must(open.equals(new TreeSet<>(Arrays.asList(FACE))), "the face is " + open);
    for (Field f : c.getDeclaredFields()) {
      must(Modifier.isPrivate(f.getModifiers()), "a field that isn't private: " + f);
    }
  }

  private static void classes() {
    Set<String> names = new HashSet<>();
    for (String f : FACE) names.add(f.substring(f.indexOf(' ') + 1, f.indexOf('(')));
    Set<Class<?>> all = new HashSet<>(Arrays.asList(CollarNames.class.getDeclaredClasses()));
    must(all.size() <= 12, "too many classes");
    for (Class<?> c : all) must(Modifier.isStatic(c.getModifiers()), "an inner class that isn't static: " + c);
    for (Class<?> c : all) {
      for (Method m : c.getDeclaredMethods()) must(!names.contains(m.getName()), "bears a name of the face: " + m);
    }
    all.add(CollarNames.class);
    for (Class<?> c : all) {
      int fields = 0;
      for (Field f : c.getDeclaredFields()) {
        if (Modifier.isStatic(f.getModifiers())) must(Modifier.isFinal(f.getModifiers()), "static state: " + f);
        else fields++;
      }
      must(fields <= 20, "too many fields in " + c);
      for (Method m : c.getDeclaredMethods()) {
        must(m.getParameterCount() <= 7, "too many parameters: " + m);
        boolean again = names.contains(m.getName()) && !Modifier.isPublic(m.getModifiers());
        must(!again, "a private method with a name of the face: " + m);
      }
    }
  }

  private static void text() throws IOException {
    String source = Files.readString(Path.of("src/main/java/CollarNames.java"));
    for (int i = 0; i < source.length(); i++) must(source.charAt(i) < 128, "a sign beyond 127 at " + i);
    String code = source.replaceAll("(?s)/\\*.*?\\*/", "").replaceAll("//[^\n]*", "");
    for (String f : FORBIDDEN) {
      Matcher m = Pattern.compile(f).matcher(code);
      must(!m.find(), "the code has what matches " + f);
    }
    int begun = -1;
    String[] lines = source.split("\n");
    for (int i = 0; i < lines.length; i++) {
      if (lines[i].matches("( {4}| {8})[a-zA-Z].*\\) \\{")) begun = i;
      if (lines[i].matches("( {4}| {8})\\}") && begun >= 0) {
        must(i - begun < 60, "a long method at line " + (begun + 1));
        begun = -1;
      }
    }
  }

  /** What the class's methods call, by the compiler's own reading of it. */
  private static final class Calls extends TreePathScanner<Void, Element> {
    final Trees trees;
    final Map<Element, Set<Element>> own = new HashMap<>();

    Calls(Trees trees) {
      this.trees = trees;
    }

    @Override public Void visitMethod(MethodTree tree, Element in) {
      Element method = trees.getElement(getCurrentPath());
      own.computeIfAbsent(method, m -> new LinkedHashSet<>());
      return super.visitMethod(tree, method);
    }

    @Override public Void visitMethodInvocation(MethodInvocationTree tree, Element in) {
      calls(in, trees.getElement(getCurrentPath()));
      return super.visitMethodInvocation(tree, in);
    }

    @Override public Void visitNewClass(NewClassTree tree, Element in) {
      must(tree.getClassBody() == null, "an anonymous class: " + tree);
      calls(in, trees.getElement(getCurrentPath()));
      return super.visitNewClass(tree, in);
    }

    @Override public Void visitClass(ClassTree tree, Element in) {
      must(in == null, "a local class: " + tree.getSimpleName());
      return super.visitClass(tree, in);
    }

    @Override public Void visitLambdaExpression(LambdaExpressionTree tree, Element in) {
      must(false, "a lambda: " + tree);
      return super.visitLambdaExpression(tree, in);
    }

    @Override public Void visitMemberReference(MemberReferenceTree tree, Element in) {
      must(false, "a method reference: " + tree);
      return super.visitMemberReference(tree, in);
    }

    private void calls(Element from, Element to) {
      String name = to.getEnclosingElement().getSimpleName() + "." + to.getSimpleName();
      boolean isOwn = to.getEnclosingElement().toString().startsWith("CollarNames");
      must(isOwn || LIBRARY.contains(name) || name.equals("Object.<init>"), "a call that rule 4 may not have: " + name);
      if (isOwn && from != null) own.computeIfAbsent(from, m -> new LinkedHashSet<>()).add(to);
    }

    /** How many calls stand open at once, this one among them; the class has no recursion, so one is a fault here. */
    int depth(Element method, Set<Element> open) {
      must(open.add(method), "a recursion through " + method);
      int most = 0;
      if (open.size() <= 40) {
        for (Element called : own.getOrDefault(method, Set.of())) most = Math.max(most, depth(called, new HashSet<>(open)));
      }
      return 1 + most;
    }
  }

  private static void calls() throws IOException {
    JavaCompiler compiler = ToolProvider.getSystemJavaCompiler();
    try (StandardJavaFileManager files = compiler.getStandardFileManager(null, null, null)) {
      JavacTask task = (JavacTask) compiler.getTask(null, files, null, List.of("-proc:none"), null,
          files.getJavaFileObjects("src/main/java/CollarNames.java"));
      Iterable<? extends CompilationUnitTree> units = task.parse();
      task.analyze();
      Calls calls = new Calls(Trees.instance(task));
      for (Tree unit : units) calls.scan(unit, null);
      must(calls.own.size() > FACE.length, "no methods were read");
      for (Element method : calls.own.keySet()) {
        int depth = calls.depth(method, new HashSet<>());
        must(depth <= DEEPEST, method + " goes " + depth + " calls deep");
      }
    }
  }

  public static void main(String[] args) throws IOException {
    face();
    classes();
    text();
    calls();
    System.out.println(wrong == 0 ? "the rules are kept" : wrong + " rules are broken");
    if (wrong != 0) System.exit(1);
  }
}
