import java.io.IOException;
import java.lang.reflect.Method;
import java.nio.file.Files;
import java.nio.file.Path;
import java.util.regex.Matcher;
import java.util.regex.Pattern;

/** README.md, found from the project's directory: each call of it answers what stands behind it. */
public final class ReadmeTest {
  private static final Check check = new Check("ReadmeTest");
  private static final Pattern CALL = Pattern.compile("town\\.(\\w+)\\(([^)]*)\\);\\s*// (\\w+|-\\d+)(:.*)?");
  private static final String NEW = "CarryAlike town = new CarryAlike();";

  public static void main(String[] args) throws Exception {
    callsAnswerAsTheReadmeSays();
    check.end();
  }

  private static void callsAnswerAsTheReadmeSays() throws ReflectiveOperationException, IOException {
    CarryAlike town = null;
    boolean code = false;
    for (String line : Files.readAllLines(Path.of("README.md"))) {
      if (line.startsWith("```")) {
        code = line.equals("```java");
      } else if (code && line.equals(NEW)) {
        town = new CarryAlike();
      } else if (code) {
        answers(town, line);
      }
    }
  }

  private static void answers(CarryAlike town, String line) throws ReflectiveOperationException {
    Matcher call = CALL.matcher(line);
    check.due("a call of the README: " + line, call.matches() && town != null ? 1 : 0, 1);
    if (!call.matches() || town == null) {
      return;
    }
    String[] told = call.group(2).isEmpty() ? new String[0] : call.group(2).split(", ");
    for (Method method : CarryAlike.class.getMethods()) {
      if (method.getName().equals(call.group(1)) && method.getDeclaringClass() == CarryAlike.class) {
        check.due("numbers of " + line, told.length, method.getParameterCount());
        Object[] numbers = new Object[told.length];
        for (int i = 0; i < told.length; i++) {
          long number = Long.decode(told[i].replace("L", ""));
          numbers[i] = method.getParameterTypes()[i] == long.class ? (Object) number : (Object) (int) number;
        }
        check.due(line, ((Number) method.invoke(town, numbers)).longValue(), due(call.group(3)));
      }
    }
  }

  private static long due(String answer) throws ReflectiveOperationException {
    boolean number = answer.matches("-?\\d+");
    return number ? Long.parseLong(answer) : CarryAlike.class.getField(answer).getInt(null);
  }
}
