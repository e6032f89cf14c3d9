import java.lang.reflect.Constructor;
import java.lang.reflect.Field;
import java.lang.reflect.Method;
import java.lang.reflect.Modifier;
import java.nio.file.Files;
import java.nio.file.Path;
import java.util.ArrayList;
import java.util.HashSet;
import java.util.List;
import java.util.Set;
import java.util.TreeSet;
import java.util.regex.Matcher;
import java.util.regex.Pattern;

/** The face is the document's, and what can be seen of the rules of LANGUAGE.md holds. */
public final class LanguageTest {
  private static final String FACE =
      "int sign(int); boolean end(int); int town(); int rule(int); int of(int,int)!; int law(int,int);"
      + "int sheet(int,int,int,int); boolean friend(int,int,boolean); int slow(int,int); int comes(int); int serve(int);"
      + "int worth(int,int)!; int can(int); int sell(int); int undo(); int judge(int,int); int run(int,int); int open();"
      + "int walls(); int sum(); int gained(int)!; int winner(); int forward(int); int back(int); int stand(int);"
      + "int needs(int); int lines(); int cheapest(long); long paths(long); int ends(int); int foremost(int);"
      + "int finest(); int rises(); long order(); int rests(); int places(int); int best(int); int bear(int);"
      + "int tax(int); int turned(int,int); int seed(int); boolean keep(int); boolean again(int); int count(int);"
      + "long line(); long row(int)!";
  private static final String[] FORBIDDEN = {
    "->", "::", "\\btry\\b", "\\bcatch\\b", "\\bfinally\\b", "\\bassert\\b", "\\bsynchronized\\b", "\\bvar\\b", "Exact\\(",
    "\\bdouble\\b", "\\bfloat\\b", "System\\.(?!arraycopy)", "\\bstatic \\{", "\\bObject\\b", "\\bhashCode\\b", "\\btoString\\b",
    "\\b(Integer|Long|Math|Arrays)\\.\\w+\\b(?!\\()",
  };
  /** What the program may call of the library: of rule 4 what it needs, no more. */
  private static final Set<String> LIBRARY = Set.of(
      "java.lang.Object.<init> ()V", "java.util.NoSuchElementException.<init> (Ljava/lang/String;)V",
      "java.lang.Integer.bitCount (I)I", "java.lang.Math.max (II)I", "java.lang.Math.min (II)I",
      "java.lang.String.indexOf (I)I", "java.util.Arrays.fill ([II)V", "java.util.Arrays.fill ([JJ)V",
      "java.lang.System.arraycopy (Ljava/lang/Object;ILjava/lang/Object;II)V");
  private static final int MOST_DEEP = 8;

  private static int wrong = 0;

  public static void main(String[] args) throws Exception {
    face();
    classes();
    source();
    Compiled all = Compiled.of(SoldToBehind.class);
    library(all);
    depth(all);
    made(all);
    System.out.println("language: " + wrong + " wrong");
    if (wrong > 0) System.exit(1);
  }

  private static void holds(boolean is, String what) {
    if (!is) {
      wrong++;
      System.out.println("language: " + what);
    }
  }

  private static void face() {
    Set<String> due = new TreeSet<>();
    for (String s : FACE.split(";")) due.add(s.trim());
    Set<String> got = new TreeSet<>();
    Set<String> names = new HashSet<>();
    for (Method m : SoldToBehind.class.getDeclaredMethods()) {
      if (Modifier.isPrivate(m.getModifiers())) continue;
      names.add(m.getName());
      StringBuilder b = new StringBuilder(m.getReturnType() + " " + m.getName() + "(");
      for (Class<?> c : m.getParameterTypes()) b.append(b.charAt(b.length() - 1) == '(' ? "" : ",").append(c);
      got.add(b + ")" + (m.getExceptionTypes().length == 1 ? "!" : ""));
      holds(Modifier.isPublic(m.getModifiers()) && !Modifier.isStatic(m.getModifiers()), m.getName() + " is not public");
    }
    holds(due.equals(got), "the face is " + got + ", due is " + due);
    for (Method m : SoldToBehind.class.getDeclaredMethods()) {
      holds(!Modifier.isPrivate(m.getModifiers()) || !names.contains(m.getName()), "a private " + m.getName());
    }
    for (Field f : SoldToBehind.class.getDeclaredFields()) {
      holds(Modifier.isPrivate(f.getModifiers()) || f.getName().equals("NONE"), "a field of the face: " + f.getName());
    }
    Constructor<?>[] all = SoldToBehind.class.getDeclaredConstructors();
    holds(all.length == 1 && all[0].getParameterCount() == 0 && Modifier.isPublic(all[0].getModifiers()), "constructors");
    holds(Modifier.isFinal(SoldToBehind.class.getModifiers()), "the class is final");
  }

  private static void classes() {
    List<Class<?>> all = new ArrayList<>(List.of(SoldToBehind.class.getDeclaredClasses()));
    all.add(SoldToBehind.class);
    holds(all.size() <= 12, all.size() + " classes");
    for (Class<?> c : all) {
      int own = 0;
      for (Field f : c.getDeclaredFields()) {
        if (!Modifier.isStatic(f.getModifiers())) own++;
        else holds(Modifier.isFinal(f.getModifiers()), "a static field that is not final: " + f);
      }
      holds(own <= 20, c + " has " + own + " fields");
      holds(c == SoldToBehind.class || Modifier.isStatic(c.getModifiers()), c + " is not static");
      for (Method m : c.getDeclaredMethods()) holds(m.getParameterCount() <= 7, m + " has too many parameters");
    }
  }

  private static void source() throws Exception {
    List<String> lines = Files.readAllLines(Path.of("src/main/java/SoldToBehind.java"));
    int opened = 0;
    for (int i = 0; i < lines.size(); i++) {
      String line = lines.get(i);
      String code = line.replaceAll("//.*|^\\s*/?\\*.*", "").replaceAll("\"[^\"]*\"", "\"\"");
      for (String f : FORBIDDEN) {
        Matcher m = Pattern.compile(f).matcher(code);
        holds(!m.find(), "line " + (i + 1) + ": " + f);
      }
      holds(!code.startsWith("import") || code.matches("import java.util.(Arrays|NoSuchElementException);"), code);
      if (code.matches(" {4}( {4})?[a-z].*\\) (throws \\w+ )?\\{")) opened = i;
      if (code.matches(" {4}( {4})?\\}")) holds(i - opened <= 60, "a method of more than 60 lines ends at " + (i + 1));
      for (char c : line.toCharArray()) holds(c > 0 && c < 128, "line " + (i + 1) + " has a sign beyond 127");
    }
  }

  private static void library(Compiled all) {
    Set<String> found = new TreeSet<>();
    for (Set<String> called : all.calls.values()) found.addAll(called);
    found.removeAll(all.calls.keySet());
    for (String name : found) holds(LIBRARY.contains(name), "calls of the library " + name);
    holds(!found.isEmpty(), "no calls of the library were found");
  }

  /** Calls that are no recursion go at most eight deep, the library's among them; only extend() calls itself. */
  private static void depth(Compiled all) {
    for (String name : all.calls.keySet()) {
      boolean itself = all.calls.get(name).contains(name);
      holds(!itself || name.startsWith("SoldToBehind$Orders.extend "), name + " calls itself");
      List<String> deepest = deepest(all, name, 1);
      holds(deepest.size() <= MOST_DEEP, deepest.size() + " deep: " + deepest);
    }
    holds(deepest(all, "SoldToBehind.best (I)I", 1).size() > 2, "no calls were found");
  }

  /** Where calls go round by more than one method no end is found: that many levels are told then. */
  private static List<String> deepest(Compiled all, String from, int level) {
    List<String> longest = List.of();
    for (String to : level > 2 * MOST_DEEP ? Set.<String>of() : all.calls.getOrDefault(from, Set.of())) {
      List<String> behind = to.equals(from) ? List.of() : deepest(all, to, level + 1);
      if (behind.size() > longest.size()) longest = behind;
    }
    List<String> path = new ArrayList<>(List.of(from));
    path.addAll(longest);
    return path;
  }

  /** A run's calls share one room: all is made with the object, but for Reach at its first use and what is thrown. */
  private static void made(Compiled all) {
    for (String name : all.made.keySet()) {
      boolean first = name.contains(".<init> ") || name.contains(".<clinit> ");
      for (String what : all.made.get(name)) {
        boolean known = what.equals("java.util.NoSuchElementException")
            || what.equals("SoldToBehind$Reach") && name.startsWith("SoldToBehind.allLines ");
        holds(first || known, name + " makes " + what);
      }
    }
    holds(all.made.get("SoldToBehind.<init> ()V").contains("[]"), "nothing that is made was found");
  }
}
