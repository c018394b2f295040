import java.lang.reflect.Method;
import java.lang.reflect.Modifier;
import java.nio.file.Files;
import java.nio.file.Path;
import java.util.List;
import java.util.TreeSet;
import java.util.regex.Matcher;
import java.util.regex.Pattern;

/** What README.md shows is so: each call there answers the number behind it, and its table names every call. */
public final class LandUnionsReadme {
  private static final Pattern CALL = Pattern.compile("x\\.(\\w+)\\((.*?)\\);\\s+// (-?\\d+)(?:: (.*))?");
  private static final Pattern NAMED = Pattern.compile("`(\\w+)\\(([\\w, ]*)\\)`");
  private static final int FEWEST_CALLS = 30;

  private static int wrong = 0;

  private static void check(boolean right, String what) {
    if (!right) { wrong++; System.out.println(what); }
  }

  private static Method face(String name) {
    for (Method m : LandUnions.class.getDeclaredMethods()) {
      if (m.getName().equals(name) && Modifier.isPublic(m.getModifiers())) return m;
    }
    return null;
  }

  private static Object[] numbers(String told) {
    String[] parts = told.isEmpty() ? new String[0] : told.split(", ");
    Object[] given = new Object[parts.length];
    for (int i = 0; i < parts.length; i++) {
      given[i] = parts[i].startsWith("'") ? (int) parts[i].charAt(1) : Integer.parseInt(parts[i]);
    }
    return given;
  }

  private static int answer(LandUnions x, String name, String told) throws ReflectiveOperationException {
    Method m = face(name);
    Object[] given = numbers(told);
    if (m == null || m.getParameterCount() != given.length) {
      check(false, "README shows a call that there is not: " + name + "(" + told + ")");
      return 0;
    }
    return (Integer) m.invoke(x, given);
  }

  /** Where the words behind the number are a constant's name, the number must be that constant's. */
  private static void checkName(String words, int number) throws ReflectiveOperationException {
    if (words != null && words.matches("[A-Z]+")) {
      check(LandUnions.class.getField(words).getInt(null) == number, "README calls " + number + " " + words);
    }
  }

  private static void example(List<String> lines) throws ReflectiveOperationException {
    LandUnions x = new LandUnions();
    int calls = 0;
    for (String line : lines) {
      if (!line.startsWith("x.")) continue;
      Matcher call = CALL.matcher(line);
      boolean read = call.matches();
      check(read, "README has a call that can not be read: " + line);
      if (!read) continue;
      int want = Integer.parseInt(call.group(3));
      int got = answer(x, call.group(1), call.group(2));
      check(got == want, line + " answered " + got);
      checkName(call.group(4), want);
      calls++;
    }
    check(calls >= FEWEST_CALLS, "README shows " + calls + " calls alone");
  }

  private static void table(List<String> lines) {
    TreeSet<String> named = new TreeSet<>();
    TreeSet<String> want = new TreeSet<>();
    for (String line : lines) {
      if (!line.startsWith("| `")) continue;
      Matcher call = NAMED.matcher(line.substring(0, line.indexOf('|', 1)));
      while (call.find()) named.add(call.group(1) + " " + (call.group(2).isEmpty() ? 0 : call.group(2).split(", ").length));
    }
    for (Method m : LandUnions.class.getDeclaredMethods()) {
      if (Modifier.isPublic(m.getModifiers())) want.add(m.getName() + " " + m.getParameterCount());
    }
    check(named.equals(want), "README's table names " + named + ", the face has " + want);
  }

  public static void main(String[] args) throws Exception {
    List<String> lines = Files.readAllLines(Path.of("README.md"));
    example(lines);
    table(lines);
    if (wrong > 0) System.exit(1);
    System.out.println("README.md shows what is so");
  }
}
