import java.io.IOException;
import java.lang.reflect.InvocationTargetException;
import java.lang.reflect.Method;
import java.lang.reflect.Modifier;
import java.nio.file.Files;
import java.nio.file.Path;
import java.util.ArrayList;
import java.util.List;
import java.util.regex.Matcher;
import java.util.regex.Pattern;

/** The calls that README.md shows answer what it says behind them, and it names every call. */
public final class ReadmeTest {
  private static final Pattern CALL = Pattern.compile("desk\\.(\\w+)\\(([^)]*)\\);");
  private static final Pattern ANSWER = Pattern.compile("//\\s*(-?\\d+|throws \\w+)");
  private static int wrong = 0;

  public static void main(String[] args) throws IOException, IllegalAccessException {
    List<String> page = Files.readAllLines(Path.of("README.md"));
    int calls = showCalls(page);
    if (calls < 50) {
      tell("only " + calls + " calls were found in README.md");
    }
    String text = String.join("\n", page);
    for (Method method : LightScript.class.getDeclaredMethods()) {
      if (Modifier.isPublic(method.getModifiers())
          && !text.contains("`" + method.getName() + "`")) {
        tell("README.md doesn't name " + method.getName());
      }
    }
    System.out.println(wrong == 0 ? "all answers are as due" : wrong + " answers are not as due");
    if (wrong != 0) {
      System.exit(1);
    }
  }

  private static void tell(String what) {
    wrong++;
    System.out.println(what);
  }

  /** Makes the calls of the page's Java blocks: how many were compared. */
  private static int showCalls(List<String> page) throws IllegalAccessException {
    LightScript desk = null;
    int compared = 0;
    for (String line : page) {
      if (line.equals("LightScript desk = new LightScript();")) {
        desk = new LightScript();
      }
      if (desk == null || !line.startsWith("desk.")) {
        continue;
      }
      Matcher call = CALL.matcher(line);
      String last = "";
      while (call.find()) {
        last = answer(desk, call.group(1), call.group(2));
      }
      Matcher due = ANSWER.matcher(line);
      if (!due.find()) {
        tell("README.md says no answer: " + line);
      } else if (!last.equals(due.group(1))) {
        tell(line + " -- answered " + last);
      }
      compared++;
    }
    return compared;
  }

  private static String answer(LightScript desk, String name, String arguments)
      throws IllegalAccessException {
    for (Method method : LightScript.class.getDeclaredMethods()) {
      if (!method.getName().equals(name)) {
        continue;
      }
      try {
        return String.valueOf(method.invoke(desk, numbers(method, arguments)));
      } catch (InvocationTargetException e) {
        return "throws " + e.getCause().getClass().getSimpleName();
      }
    }
    return "no such call";
  }

  private static Object[] numbers(Method method, String arguments) {
    List<Object> numbers = new ArrayList<>();
    Class<?>[] types = method.getParameterTypes();
    for (String argument : arguments.isEmpty() ? new String[0] : arguments.split(", ")) {
      long number = Long.parseLong(argument);
      boolean wide = numbers.size() < types.length && types[numbers.size()] == long.class;
      if (wide) {
        numbers.add(number);
      } else {
        numbers.add((int) number);
      }
    }
    return numbers.toArray();
  }
}
