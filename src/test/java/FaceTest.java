import java.lang.reflect.Constructor;
import java.lang.reflect.Field;
import java.lang.reflect.Method;
import java.lang.reflect.Modifier;
import java.nio.file.Files;
import java.nio.file.Path;
import java.util.TreeSet;
import java.util.regex.Matcher;
import java.util.regex.Pattern;

/** The public face, and those rules of LANGUAGE.md that can be seen in the text of the class. */
public final class FaceTest {
  private static final String FACE = "ahead(int) back(int) bin(int) breaks(int) clear() count(int) empties(int)"
      + " fills(int,int) forget() job(int,int) keep(int) look() mark(int,int) now(int) odds(int,int,int,int) office()"
      + " sees(int,int,int) sheet(int,int,int) soon(int) ticks(int) toner(int) trace() tray(int,int) type(int) undo()"
      + " where(int,int,int) whose()";

  public static void main(String[] args) throws Exception {
    face();
    constants();
    words();
    Office.end("FaceTest");
  }

  private static void face() {
    TreeSet<String> found = new TreeSet<>();
    TreeSet<String> names = new TreeSet<>();
    for (Method m : CopierJobs.class.getDeclaredMethods()) {
      if (Modifier.isPrivate(m.getModifiers())) continue;
      found.add(signature(m));
      names.add(m.getName());
      Office.due(m.getName() + " is public and no static one", m.getModifiers(), Modifier.PUBLIC);
      Office.same(m.getName() + "'s type", m.getReturnType().getName(), m.getName().equals("trace") ? "long" : "int");
    }
    Office.same("the face", String.join(" ", found), FACE);
    for (Class<?> c : CopierJobs.class.getDeclaredClasses()) {
      Office.due(c + " is static", Modifier.isStatic(c.getModifiers()) ? 1 : 0, 1);
      for (Method m : c.getDeclaredMethods()) Office.due(c + " " + m.getName() + " is a name of the face", names.contains(m.getName()) ? 1 : 0, 0);
    }
    for (Method m : CopierJobs.class.getDeclaredMethods()) {
      if (Modifier.isPrivate(m.getModifiers())) Office.due(m.getName() + " is a name of the face", names.contains(m.getName()) ? 1 : 0, 0);
    }
    Constructor<?>[] made = CopierJobs.class.getDeclaredConstructors();
    Office.due("constructors", made.length, 1);
    Office.due("its parameters", made[0].getParameterCount(), 0);
    Office.due("it is public", made[0].getModifiers(), Modifier.PUBLIC);
    Office.due("the class is public and final", CopierJobs.class.getModifiers(), Modifier.PUBLIC | Modifier.FINAL);
  }

  private static String signature(Method m) {
    StringBuilder s = new StringBuilder(m.getName()).append('(');
    for (Class<?> p : m.getParameterTypes()) s.append(s.charAt(s.length() - 1) == '(' ? "" : ",").append(p.getName());
    return s.append(')').toString();
  }

  private static void constants() {
    Office.due("BAD", CopierJobs.BAD, -1);
    Office.due("STATE", CopierJobs.STATE, -2);
    Office.due("FULL", CopierJobs.FULL, -3);
    Office.due("NONE", CopierJobs.NONE, -9);
    Office.due("NO", CopierJobs.NO, -1000000);
    TreeSet<String> open = new TreeSet<>();
    for (Field f : CopierJobs.class.getDeclaredFields()) {
      if (!Modifier.isPrivate(f.getModifiers())) open.add(f.getName());
      if (Modifier.isStatic(f.getModifiers())) Office.due(f.getName() + " is final", Modifier.isFinal(f.getModifiers()) ? 1 : 0, 1);
    }
    Office.same("the constants", String.join(" ", open), "BAD FULL NO NONE STATE");
  }

  private static void words() throws Exception {
    String source = Files.readString(Path.of("src/main/java/CopierJobs.java"));
    String code = source.replaceAll("(?s)/\\*.*?\\*/", " ").replaceAll("//[^\n]*", " ");
    none(code, "\\b(throw|throws|try|catch|synchronized|assert|package|var|record|native|volatile|Object|Exception)\\b");
    none(code, "->|::|\\bstatic\\s*\\{|\\bhashCode\\b|\\btoString\\b|\\bSystem\\b|Exact\\b");
    none(code, "\\bimport\\b(?! java\\.util\\.Arrays;)");
    none(code, "[^\\x00-\\x7f]");
    Office.due("classes, some twelve at most", code.split("\\bclass\\b").length - 1 <= 12 ? 1 : 0, 1);
  }

  private static void none(String code, String pattern) {
    Matcher m = Pattern.compile(pattern).matcher(code);
    Office.same("not in the language", m.find() ? m.group() : "", "");
  }
}
