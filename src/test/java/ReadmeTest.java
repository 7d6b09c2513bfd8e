import java.io.IOException;
import java.lang.reflect.Method;
import java.nio.file.Files;
import java.nio.file.Path;
import java.util.regex.Matcher;
import java.util.regex.Pattern;

/** The example in README.md, called line by line, answers as it says. */
public final class ReadmeTest {
  private static final Pattern LINE =
      Pattern.compile("(?:int bag = )?post\\.(\\w+)\\(([^)]*)\\); +// (-?\\d+)\\b.*");

  public static void main(String[] args) throws IOException, ReflectiveOperationException {
    BagRows post = new BagRows();
    int calls = 0;
    for (String line : Files.readAllLines(Path.of("README.md"))) {
      Matcher parts = LINE.matcher(line);
      if (parts.matches()) {
        calls++;
        Check.due("README.md: " + line, call(post, parts.group(1), parts.group(2)),
            Long.parseLong(parts.group(3)));
      } else {
        Check.holds("README.md has an answer for " + line, !line.contains("post."));
      }
    }
    Check.holds("README.md has an example", calls > 0);
    Check.end();
  }

  /** Makes the call that is written so; the word bag stands for the first receptacle. */
  private static long call(BagRows post, String name, String written)
      throws ReflectiveOperationException {
    String[] texts = written.split(", ");
    for (Method method : BagRows.class.getMethods()) {
      if (method.getName().equals(name)) {
        return (Integer) method.invoke(post, numbers(texts, method.getParameterTypes()));
      }
    }
    throw new NoSuchMethodException(name);
  }

  private static Object[] numbers(String[] texts, Class<?>[] types) {
    Object[] numbers = new Object[texts.length];
    for (int i = 0; i < texts.length; i++) {
      long number = texts[i].equals("bag") ? 1001 : Long.parseLong(texts[i]);
      if (types[i] == long.class) {
        numbers[i] = number;
      } else {
        numbers[i] = (int) number;
      }
    }
    return numbers;
  }
}
