import java.io.IOException;
import java.lang.reflect.Method;
import java.nio.file.Files;
import java.nio.file.Path;
import java.util.regex.Matcher;
import java.util.regex.Pattern;

/** src/test/SENTENCES.md, found from the project's directory: each promise has its tests there, and each of these is there. */
public final class SentencesTest {
  private static final Check check = new Check("SentencesTest");
  private static final Pattern TEST = Pattern.compile("`(\\w+Test)\\.(\\w+)`");
  private static final Pattern PROMISE = Pattern.compile("## Promise (\\d+): (\\w+).*");

  public static void main(String[] args) throws Exception {
    eachPromiseHasTestsThatAreThere();
    check.end();
  }

  private static void eachPromiseHasTestsThatAreThere() throws IOException, ClassNotFoundException {
    int[] tests = new int[27];
    int promise = 0;
    for (String line : Files.readAllLines(Path.of("src/test/SENTENCES.md"))) {
      Matcher heading = PROMISE.matcher(line);
      if (heading.matches()) {
        promise++;
        check.due("the number of " + line, Integer.parseInt(heading.group(1)), promise);
      }
      Matcher named = TEST.matcher(line);
      while (named.find()) {
        check.due(named.group() + " is there", isThere(named.group(1), named.group(2)) ? 1 : 0, 1);
        tests[promise]++;
      }
    }
    for (int one = 1; one <= 26; one++) {
      check.due("promise " + one + " has a test", tests[one] > 0 ? 1 : 0, 1);
    }
  }

  /** A test is a method without arguments that the class itself runs. */
  private static boolean isThere(String test, String name) throws ClassNotFoundException {
    for (Method method : Class.forName(test).getDeclaredMethods()) {
      if (method.getName().equals(name) && method.getParameterCount() == 0) {
        return true;
      }
    }
    return false;
  }
}
