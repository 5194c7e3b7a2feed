import java.nio.file.Files;
import java.nio.file.Path;
import java.util.regex.Pattern;

/**
 * Writes a copy of the class that refuses an object's 513th call. What such a call answers is free, so no test may
 * lean on it: .ci/run lets all tests run with this copy too. (No public call of the class asks another one.)
 */
public final class Counted {
  private static final Pattern CALL = Pattern.compile("(?m)^    public (?:int|long) [a-z]+\\([^)]*\\) \\{$");
  private static final int CALLS_OF_THE_FACE = 27;

  private Counted() { }

  /** The class, and where the copy goes. */
  public static void main(String[] args) throws Exception {
    String source = Files.readString(Path.of(args[0]));
    long found = CALL.matcher(source).results().count();
    if (found != CALLS_OF_THE_FACE) {
      System.out.println("Counted: " + found + " calls of the face found, due are " + CALLS_OF_THE_FACE);
      System.exit(1);
    }
    String counting = CALL.matcher(source).replaceAll("$0 tally();");
    int end = counting.lastIndexOf('}');
    Path copy = Path.of(args[1]);
    Files.createDirectories(copy.getParent());
    Files.writeString(copy, counting.substring(0, end) + "    private int tallied;\n    private void tally() {\n"
        + "        if (++tallied > 512) throw new IllegalStateException(\"an object's 513th call\");\n    }\n}\n");
  }
}
