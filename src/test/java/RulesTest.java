import java.io.IOException;
import java.lang.reflect.Field;
import java.lang.reflect.Method;
import java.lang.reflect.Modifier;
import java.nio.file.Files;
import java.nio.file.Path;
import java.util.Arrays;
import java.util.HashSet;
import java.util.Set;
import java.util.TreeSet;
import java.util.regex.Matcher;
import java.util.regex.Pattern;

// The face of the class, and those rules of LANGUAGE.md that can be seen in its text or by reflection.
public final class RulesTest {
  private static final String[] FACE = {
      "int heat(int)", "int now(int)", "int person(int)", "int of(int,int)", "int set(int,int,int)", "int would(int,int,int)",
      "int turn(int,int)", "int as(int,int)", "int garment(int,int)", "int garmentOf(int,int)", "int sew(int,int,int)",
      "int weeks(int)", "int on(int,int,int)", "int then(int,int)", "int lost(int)", "int comes(int,int)", "int mark(int,int)",
      "int kind(int,int)", "int warmest(int,int)", "int plain(int,int)", "int teach(int)", "int best(int)", "int feed(int,int)",
      "int wipe()", "int home()", "int sheet(int,int,int)", "long write(int,int,long)", "int copy(int,int,int,int,int)",
      "int lays(int)", "int book(int,int)", "int read(int,int)", "int image()", "int undo()", "int tear()", "int count(int)",
      "int status(int)"};
  private static final String[] FORBIDDEN = {
      "\\bthrow\\b", "\\bthrows\\b", "\\btry\\b", "\\bcatch\\b", "\\bsynchronized\\b", "\\bassert\\b", "->", "::", "\\bimport\\b",
      "\\bpackage\\b", "\\bprotected\\b", "\\brecord\\b", "\\bSystem\\.(?!arraycopy\\b)", "\\bThread\\b", "\\w+Exact\\b",
      "\\bstatic\\s*\\{", "\\bhashCode\\b", "\\btoString\\b", "\\bequals\\b", "\\bObject\\b"};
  private static int wrong = 0;

  private static void must(boolean holds, String what) {
    if (!holds) {
      wrong++;
      System.out.println(what);
    }
  }

  private static String told(Method m) {
    StringBuilder b = new StringBuilder(m.getReturnType().getName()).append(' ').append(m.getName()).append('(');
    for (int i = 0; i < m.getParameterCount(); i++) b.append(i > 0 ? "," : "").append(m.getParameterTypes()[i].getName());
    return b.append(')').toString();
  }

  private static void face() {
    Class<?> c = CollarNames.class;
    must(Modifier.isPublic(c.getModifiers()) && Modifier.isFinal(c.getModifiers()), "the class isn't public and final");
    must(c.getDeclaredConstructors().length == 1 && c.getConstructors().length == 1, "another constructor");
    Set<String> open = new TreeSet<>();
    for (Method m : c.getDeclaredMethods()) {
      if (Modifier.isPublic(m.getModifiers()) && !Modifier.isStatic(m.getModifiers())) open.add(told(m));
      else must(Modifier.isPrivate(m.getModifiers()), "neither of the face nor private: " + told(m));
    }
    must(open.equals(new TreeSet<>(Arrays.asList(FACE))), "the face is " + open);
    for (Field f : c.getDeclaredFields()) {
      must(Modifier.isPrivate(f.getModifiers()), "a field that isn't private: " + f);
    }
  }

  private static void classes() {
    Set<String> names = new HashSet<>();
    for (String f : FACE) names.add(f.substring(f.indexOf(' ') + 1, f.indexOf('(')));
    Set<Class<?>> all = new HashSet<>(Arrays.asList(CollarNames.class.getDeclaredClasses()));
    must(all.size() <= 12, "too many classes");
    for (Class<?> c : all) must(Modifier.isStatic(c.getModifiers()), "an inner class that isn't static: " + c);
    for (Class<?> c : all) {
      for (Method m : c.getDeclaredMethods()) must(!names.contains(m.getName()), "bears a name of the face: " + m);
    }
    all.add(CollarNames.class);
    for (Class<?> c : all) {
      int fields = 0;
      for (Field f : c.getDeclaredFields()) {
        if (Modifier.isStatic(f.getModifiers())) must(Modifier.isFinal(f.getModifiers()), "static state: " + f);
        else fields++;
      }
      must(fields <= 20, "too many fields in " + c);
      for (Method m : c.getDeclaredMethods()) {
        must(m.getParameterCount() <= 7, "too many parameters: " + m);
        boolean again = names.contains(m.getName()) && !Modifier.isPublic(m.getModifiers());
        must(!again, "a private method with a name of the face: " + m);
      }
    }
  }

  private static void text() throws IOException {
    String source = Files.readString(Path.of("src/main/java/CollarNames.java"));
    for (int i = 0; i < source.length(); i++) must(source.charAt(i) < 128, "a sign beyond 127 at " + i);
    String code = source.replaceAll("(?s)/\\*.*?\\*/", "").replaceAll("//[^\n]*", "");
    for (String f : FORBIDDEN) {
      Matcher m = Pattern.compile(f).matcher(code);
      must(!m.find(), "the code has what matches " + f);
    }
    int begun = -1;
    String[] lines = source.split("\n");
    for (int i = 0; i < lines.length; i++) {
      if (lines[i].matches("( {4}| {8})[a-zA-Z].*\\) \\{")) begun = i;
      if (lines[i].matches("( {4}| {8})\\}") && begun >= 0) {
        must(i - begun < 60, "a long method at line " + (begun + 1));
        begun = -1;
      }
    }
  }

  public static void main(String[] args) throws IOException {
    face();
    classes();
    text();
    System.out.println(wrong == 0 ? "the rules are kept" : wrong + " rules are broken");
    if (wrong != 0) System.exit(1);
  }
}
