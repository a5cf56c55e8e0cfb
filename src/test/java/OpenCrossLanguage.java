import java.io.IOException;
import java.lang.reflect.Constructor;
import java.lang.reflect.Field;
import java.lang.reflect.Method;
import java.lang.reflect.Modifier;
import java.nio.file.Files;
import java.nio.file.Path;
import java.util.Arrays;
import java.util.List;
import java.util.Set;
import java.util.TreeSet;
import java.util.regex.Matcher;
import java.util.regex.Pattern;

/** What of LANGUAGE.md can be seen from outside: the face, and words and signs that the source may not hold. */
public final class OpenCrossLanguage {
  private static final List<String> FACE = List.of(
      "int feed(int,int,int,int,int)", "int text(int)", "int told(int,int,int,int,int,int,int)", "int gone(int)",
      "int less(int,int)", "boolean freeze()", "int cross()", "int open()", "int reference(int)", "boolean collar(int,int)",
      "boolean back()", "int order(int,int)", "int curve(int,int)!", "int crossed(int)!", "int fill(int)",
      "int slice(int,int,int,int)", "int trade(int,int)", "int notice(int)!", "int without(int)", "int with(int,int,int,int)",
      "int moves(int,int)", "long swings()", "int level(int,int,int)", "int past(int,int)!", "int owner(int,int)",
      "long gain()", "int left()", "int count(int)");

  private static int wrong = 0;

  private static void check(boolean holds, String what) {
    if (!holds) {
      wrong++;
      System.out.println("not as the language asks: " + what);
    }
  }

  private static String said(Method m) {
    StringBuilder b = new StringBuilder(m.getReturnType().getSimpleName()).append(' ').append(m.getName()).append('(');
    for (Class<?> p : m.getParameterTypes()) b.append(b.charAt(b.length() - 1) == '(' ? "" : ",").append(p.getSimpleName());
    b.append(')');
    if (Arrays.asList(m.getExceptionTypes()).contains(java.util.NoSuchElementException.class)) b.append('!');
    return b.toString();
  }

  private static void face() {
    Class<?> c = OpenCross.class;
    check(Modifier.isPublic(c.getModifiers()) && Modifier.isFinal(c.getModifiers()), "public final class");
    Set<String> open = new TreeSet<>();
    Set<String> names = new TreeSet<>();
    for (Method m : c.getDeclaredMethods()) {
      if (Modifier.isPrivate(m.getModifiers())) continue;
      check(Modifier.isPublic(m.getModifiers()) && !Modifier.isStatic(m.getModifiers()), m.getName());
      open.add(said(m));
      names.add(m.getName());
    }
    check(open.equals(new TreeSet<>(FACE)), "the methods " + open);
    for (Field f : c.getDeclaredFields()) {
      check(Modifier.isPrivate(f.getModifiers()) || f.getName().equals("NONE"), "field " + f.getName());
    }
    Constructor<?>[] made = c.getDeclaredConstructors();
    check(made.length == 1 && Modifier.isPublic(made[0].getModifiers()) && made[0].getParameterCount() == 0, "the constructor");
    for (Class<?> in : c.getDeclaredClasses()) {
      check(Modifier.isStatic(in.getModifiers()) && !Modifier.isPublic(in.getModifiers()), "class " + in.getName());
      for (Method m : in.getDeclaredMethods()) check(!names.contains(m.getName()), "a method named as one of the face: " + m);
    }
    for (Method m : c.getDeclaredMethods()) {
      check(!Modifier.isPrivate(m.getModifiers()) || !names.contains(m.getName()), "a private method named as one of the face: " + m);
    }
  }

  /** Rules 5 and 11: what static fields may be, how many parameters, classes and fields there are. */
  private static void sizes() {
    Set<Class<?>> still = Set.of(int.class, long.class, boolean.class, char.class, String.class, int[].class, long[].class, char[].class, byte[].class);
    Class<?>[] inside = OpenCross.class.getDeclaredClasses();
    check(inside.length < 12, "classes " + inside.length);
    Class<?>[] all = Arrays.copyOf(inside, inside.length + 1);
    all[inside.length] = OpenCross.class;
    for (Class<?> c : all) {
      int fields = 0;
      for (Field f : c.getDeclaredFields()) {
        boolean fixed = Modifier.isStatic(f.getModifiers());
        fields += fixed ? 0 : 1;
        check(!fixed || Modifier.isFinal(f.getModifiers()) && still.contains(f.getType()), "static field " + f);
      }
      check(fields <= 20, "fields of " + c + ": " + fields);
      for (Method m : c.getDeclaredMethods()) check(m.getParameterCount() <= 7, "parameters of " + m);
    }
  }

  private static void source() throws IOException {
    String text = Files.readString(Path.of("src/main/java/OpenCross.java"));
    String code = text.replaceAll("(?s)/\\*.*?\\*/", "").replaceAll("//[^\n]*", "");
    String[] never = {"->", "::", "\\bfinally\\b", "\\bsynchronized\\b", "\\bassert\\b", "Exact\\b", "\\bcatch\\b", "\\bpackage\\b",
        "\\bprotected\\b", "\\bthis::", "System\\.(?!arraycopy)", "\\bdouble\\b", "\\bfloat\\b", "\\bObject\\b", "\\bvar\\b"};
    for (String n : never) check(!Pattern.compile(n).matcher(code).find(), "the source holds " + n);
    Matcher m = Pattern.compile("import ([^;]+);").matcher(code);
    while (m.find()) check(m.group(1).matches("java\\.util\\.(Arrays|NoSuchElementException)"), "import " + m.group(1));
    check(text.chars().allMatch(c -> c == 10 || c >= 32 && c < 127), "signs of the source");
    m = Pattern.compile("throw new (\\w+)\\(").matcher(code);
    while (m.find()) check(m.group(1).equals("NoSuchElementException"), "throw new " + m.group(1));
  }

  /** Rules 11 and 12: methods stay short, and what is made is made once: by a field, by the constructor, by a throw. */
  private static void methods() throws IOException {
    String opens = "( {4}| {8})(?! )[^=;]*\\) (throws \\w+ )?\\{";
    String made = " *(private |static )*final .* = new .*| {4}private Book (book|draft) = new Book\\(\\);"
        + "| {12}acts\\[i\\] = new Book\\(\\);| *throw new .*";
    String end = null;
    int first = 0, found = 0, at = 0;
    for (String line : Files.readAllLines(Path.of("src/main/java/OpenCross.java"))) {
      at++;
      if (end == null && line.matches(opens)) {
        end = line.replaceAll("\\S.*", "}");
        first = at;
        found++;
      } else if (line.equals(end)) {
        check(at - first < 60, "a method of " + (at - first + 1) + " lines, from line " + first);
        end = null;
      }
      check(!line.matches(".*\\bnew .*") || line.matches(made), "line " + at + " makes an object: " + line.trim());
    }
    check(end == null && found > 28, "methods found: " + found);
  }

  public static void main(String[] args) throws IOException {
    face();
    sizes();
    source();
    methods();
    System.out.println(wrong == 0 ? "the language is kept, as far as this sees" : wrong + " places");
    if (wrong != 0) System.exit(1);
  }
}
