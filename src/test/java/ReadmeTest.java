import java.lang.reflect.Method;
import java.lang.reflect.Modifier;
import java.nio.file.Files;
import java.nio.file.Path;
import java.util.regex.Matcher;
import java.util.regex.Pattern;

/** The example in README.md answers what it says, and README.md names every call. */
public final class ReadmeTest {
  private static final Pattern TEXT = Pattern.compile("String text = \"([^\"]*)\";");
  private static final Pattern LINE = Pattern.compile("(?m)^office\\.(\\w+)\\(([^)]*)\\);\\s*// (-?\\d+): ");

  public static void main(String[] args) throws Exception {
    String readme = Files.readString(Path.of("README.md"));
    example(readme);
    for (Method m : CopierJobs.class.getDeclaredMethods()) {
      if (Modifier.isPublic(m.getModifiers())) Office.due(m.getName() + " is named", readme.contains("`" + m.getName() + "`") ? 1 : 0, 1);
    }
    Office.end("ReadmeTest");
  }

  private static void example(String readme) throws Exception {
    CopierJobs x = new CopierJobs();
    Matcher text = TEXT.matcher(readme);
    Office.due("the text is found", text.find() ? 1 : 0, 1);
    Office.type(x, text.group(1));
    Matcher line = LINE.matcher(readme);
    int lines = 0;
    while (line.find()) {
      Office.due(line.group(), answer(x, line.group(1), line.group(2)), Long.parseLong(line.group(3)));
      lines++;
    }
    int all = readme.split("\noffice\\.").length - 1;
    Office.due("lines of the example that say what they answer", lines, all);
    Office.due("there are some", lines > 0 ? 1 : 0, 1);
  }

  private static long answer(CopierJobs x, String name, String numbers) throws Exception {
    String[] words = numbers.isEmpty() ? new String[0] : numbers.split(", ");
    Class<?>[] types = new Class<?>[words.length];
    Object[] values = new Object[words.length];
    for (int i = 0; i < words.length; i++) {
      types[i] = int.class;
      values[i] = Integer.parseInt(words[i]);
    }
    return ((Number) CopierJobs.class.getMethod(name, types).invoke(x, values)).longValue();
  }
}
