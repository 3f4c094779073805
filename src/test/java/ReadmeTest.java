import java.io.IOException;
import java.lang.reflect.Method;
import java.nio.file.Files;
import java.nio.file.Path;
import java.util.List;
import java.util.regex.Matcher;
import java.util.regex.Pattern;

/** Every call that README.md shows answers what README.md tells of it. */
public final class ReadmeTest {
  private static final Pattern CALL = Pattern.compile("x\\.(\\w+)\\(([^()]*)\\);\\s*// (-?\\d+)\\b.*");
  private static final String NEW = "TwoHousesOneChild x = new TwoHousesOneChild();";
  private static final int LEAST_CALLS = 39;

  private static Object argument(Class<?> type, String told) {
    if (type == boolean.class) return Boolean.valueOf(told);
    String plain = told.endsWith("L") ? told.substring(0, told.length() - 1) : told;
    long number = plain.startsWith("'") ? plain.charAt(1) : Long.decode(plain);
    return type == int.class ? (Object) Math.toIntExact(number) : (Object) number;
  }

  private static int call(TwoHousesOneChild x, String name, String told) throws ReflectiveOperationException {
    String[] each = told.isEmpty() ? new String[0] : told.split(", ");
    for (Method m : TwoHousesOneChild.class.getMethods()) {
      if (!m.getName().equals(name) || m.getParameterCount() != each.length) continue;
      Object[] arguments = new Object[each.length];
      for (int i = 0; i < each.length; i++) arguments[i] = argument(m.getParameterTypes()[i], each[i]);
      return (Integer) m.invoke(x, arguments);
    }
    throw new NoSuchMethodException(name + "(" + told + ")");
  }

  public static void main(String[] args) throws IOException, ReflectiveOperationException {
    List<String> lines = Files.readAllLines(Path.of("README.md"));
    TwoHousesOneChild x = null;
    boolean code = false;
    int calls = 0, wrong = 0;
    for (String line : lines) {
      if (line.startsWith("```")) {
        code = line.equals("```java");
        x = null;
        continue;
      }
      if (!code) continue;
      if (line.equals(NEW)) {
        x = new TwoHousesOneChild();
        continue;
      }
      Matcher call = CALL.matcher(line);
      if (x == null || !call.matches()) {
        wrong++;
        System.out.println("no call with an answer, or none on an object: " + line);
        continue;
      }
      calls++;
      int got = call(x, call.group(1), call.group(2));
      if (got == Integer.parseInt(call.group(3))) continue;
      wrong++;
      System.out.println("answered " + got + ": " + line);
    }
    if (calls < LEAST_CALLS) {
      wrong++;
      System.out.println("only " + calls + " calls were found");
    }
    System.out.println(wrong == 0 ? calls + " answers of README.md are as due" : wrong + " things are not as due");
    if (wrong != 0) System.exit(1);
  }
}
