import java.io.IOException;
import java.lang.reflect.InvocationTargetException;
import java.lang.reflect.Method;
import java.nio.file.Files;
import java.nio.file.Path;
import java.util.Arrays;
import java.util.TreeSet;
import java.util.regex.Matcher;
import java.util.regex.Pattern;

/** The example in README.md answers what is written beside its calls, and shows every call. */
public final class EventSpansReadmeTest {
  private static final Pattern CALL = Pattern.compile("graph\\.(\\w+)\\(([^)]*)\\);\\s*// (-?\\d+|\\w+Exception)\\b.*");

  private static int wrong = 0;

  private static void report(String text) {
    wrong++;
    System.out.println(text);
  }

  private static Method methodNamed(String name) {
    for (Method method : EventSpans.class.getMethods()) {
      if (method.getDeclaringClass() == EventSpans.class && method.getName().equals(name)) {
        return method;
      }
    }
    throw new Error("README.md calls " + name + ", which is not there");
  }

  private static Object[] numbers(String arguments) {
    return arguments.isEmpty() ? new Object[0] : Arrays.stream(arguments.split(", ")).map(Integer::valueOf).toArray();
  }

  private static String outcome(EventSpans graph, String name, String arguments) throws IllegalAccessException {
    try {
      return methodNamed(name).invoke(graph, numbers(arguments)).toString();
    } catch (InvocationTargetException e) {
      return e.getCause().getClass().getSimpleName();
    }
  }

  private static TreeSet<String> runExample() throws IOException, IllegalAccessException {
    EventSpans graph = new EventSpans();
    TreeSet<String> called = new TreeSet<>();
    for (String line : Files.readAllLines(Path.of("README.md"))) {
      if (!line.startsWith("graph.")) {
        continue;
      }
      Matcher call = CALL.matcher(line);
      if (!call.matches()) {
        report("no answer is written beside: " + line);
        continue;
      }
      called.add(call.group(1));
      String got = outcome(graph, call.group(1), call.group(2));
      if (!got.equals(call.group(3))) {
        report("gave " + got + ": " + line);
      }
    }
    return called;
  }

  public static void main(String[] args) throws IOException, IllegalAccessException {
    TreeSet<String> called = runExample();
    for (Method method : EventSpans.class.getMethods()) {
      if (method.getDeclaringClass() == EventSpans.class && !called.contains(method.getName())) {
        report("README.md does not call " + method.getName());
      }
    }
    System.out.println(wrong == 0 ? "all answers are as due" : wrong + " answers are not as due");
    if (wrong != 0) {
      System.exit(1);
    }
  }
}
