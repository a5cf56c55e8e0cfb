import java.io.IOException;
import java.nio.file.Files;
import java.nio.file.Path;
import java.util.ArrayList;
import java.util.List;
import java.util.regex.Matcher;
import java.util.regex.Pattern;

/** README.md's calls answer what stands behind them there. */
public final class OpenCrossReadme {
  private static final Pattern CALL = Pattern.compile("([xy])\\.(\\w+)\\(([^)]*)\\);\\s*// (-?\\w+).*");

  private static Object call(OpenCross on, String name, String list) throws ReflectiveOperationException {
    List<Integer> numbers = new ArrayList<>();
    for (String one : list.split(",")) if (!one.isBlank()) numbers.add(Integer.decode(one.trim()));
    Class<?>[] types = new Class<?>[numbers.size()];
    java.util.Arrays.fill(types, int.class);
    return OpenCross.class.getMethod(name, types).invoke(on, numbers.toArray());
  }

  public static void main(String[] args) throws IOException, ReflectiveOperationException {
    OpenCross x = new OpenCross(), y = new OpenCross();
    int asked = 0, wrong = 0;
    for (String line : Files.readAllLines(Path.of("README.md"))) {
      Matcher m = CALL.matcher(line);
      if (!m.matches()) continue;
      asked++;
      String got = String.valueOf(call(m.group(1).equals("x") ? x : y, m.group(2), m.group(3)));
      if (got.equals(m.group(4))) continue;
      wrong++;
      System.out.println(m.group(2) + "(" + m.group(3) + ") answered " + got + ", README.md says " + m.group(4));
    }
    if (asked < 16) System.out.println("README.md tells but " + asked + " calls");
    if (wrong != 0 || asked < 16) System.exit(1);
    System.out.println("README.md's " + asked + " calls answer as it says");
  }
}
