import java.io.IOException;
import java.lang.reflect.InvocationTargetException;
import java.lang.reflect.Method;
import java.lang.reflect.Modifier;
import java.nio.file.Files;
import java.nio.file.Path;
import java.util.HashMap;
import java.util.Map;
import java.util.Set;
import java.util.TreeSet;
import java.util.regex.Matcher;
import java.util.regex.Pattern;

/** The calls that README.md shows answer as it says, in the program and by the document's plain reading. */
public final class ReadmeTests {
  private static final Pattern NEW_BOOK = Pattern.compile("(NightBook )?book = new NightBook\\(\\);");
  private static final Pattern CALL = Pattern.compile(
      "(?:int (\\w+) = )?book\\.(\\w+)\\(([^)]*)\\); +// (throws \\w+|-?\\d+)(:.*)?");

  private final Map<String, Integer> names = new HashMap<>();
  private final Set<String> shown = new TreeSet<>();
  private NightBook book;
  private NaiveBook naive;

  public static void main(String[] args) throws IOException {
    ReadmeTests tests = new ReadmeTests();
    boolean inCode = false;
    for (String line : Files.readAllLines(Path.of("README.md"))) {
      if (line.startsWith("```")) {
        inCode = line.equals("```java");
      } else if (inCode) {
        tests.follow(line);
      }
    }
    tests.lookForAllMethods();
    Due.end("ReadmeTests");
  }

  private void follow(String line) {
    if (NEW_BOOK.matcher(line).matches()) {
      book = new NightBook();
      naive = new NaiveBook();
      return;
    }
    Matcher call = CALL.matcher(line);
    if (!call.matches() || book == null) {
      Due.holds("README.md: a call with its answer: " + line, false);
      return;
    }
    String[] arguments = call.group(3).isEmpty() ? new String[0] : call.group(3).split(", ");
    String got = answer(book, call.group(2), arguments);
    Due.holds("README.md: " + line + " answered " + got, got.equals(call.group(4)));
    String due = answer(naive, call.group(2), arguments);
    Due.holds("README.md: " + line + " is by the document " + due, due.equals(call.group(4)));
    shown.add(call.group(2));
    if (call.group(1) != null) {
      names.put(call.group(1), Integer.valueOf(call.group(4)));
    }
  }

  private String answer(Object whose, String name, String[] arguments) {
    Object[] values = new Object[arguments.length];
    for (int i = 0; i < values.length; i++) {
      values[i] = value(arguments[i]);
    }
    for (Method method : whose.getClass().getDeclaredMethods()) {
      if (method.getName().equals(name) && method.getParameterCount() == values.length) {
        return answer(whose, method, values);
      }
    }
    return "no such method";
  }

  private static String answer(Object whose, Method method, Object[] values) {
    try {
      long answer = ((Number) method.invoke(whose, values)).longValue();
      if (answer == NaiveBook.THROWS_ARGUMENT) {
        return "throws IllegalArgumentException";
      }
      return answer == NaiveBook.THROWS_STATE ? "throws IllegalStateException" : Long.toString(answer);
    } catch (InvocationTargetException e) {
      return "throws " + e.getCause().getClass().getSimpleName();
    } catch (IllegalAccessException e) {
      return "no access";
    }
  }

  private Object value(String argument) {
    if (argument.equals("true") || argument.equals("false")) {
      return argument.equals("true");
    }
    Integer named = names.get(argument);
    return named != null ? named : Integer.valueOf(argument);
  }

  private void lookForAllMethods() {
    for (Method method : NightBook.class.getDeclaredMethods()) {
      if (Modifier.isPublic(method.getModifiers())) {
        Due.holds("README.md shows " + method.getName(), shown.contains(method.getName()));
      }
    }
  }
}
