import java.lang.reflect.Method;
import java.lang.reflect.Modifier;
import java.nio.file.Files;
import java.nio.file.Path;
import java.util.Set;
import java.util.TreeSet;
import java.util.regex.Matcher;
import java.util.regex.Pattern;

/** Makes each call that README.md shows; it must answer the first number behind it, and each call of the face must be shown. */
public final class ReadmeTest {
  static final Pattern NEW = Pattern.compile("ExchangeRows x = new ExchangeRows\\(\\);");
  static final Pattern CALL = Pattern.compile("x\\.(\\w+)\\(([-0-9, ]*)\\);\\s*// (-?\\d+).*");
  static final Pattern LETTERS = Pattern.compile("for \\(char c : \"(.*)\"\\.toCharArray\\(\\)\\) x\\.letter\\(c\\);");
  static int wrong = 0;
  static int made = 0;
  static ExchangeRows x = null;
  static final Set<String> shown = new TreeSet<>();

  static void fault(int line, String what) {
    wrong++;
    System.out.println("ReadmeTest: README.md, line " + line + ": " + what);
  }

  static Method called(String name, int numbers) {
    for (Method m : ExchangeRows.class.getMethods()) if (m.getName().equals(name) && m.getParameterCount() == numbers) return m;
    return null;
  }

  static void call(int line, String name, String numbers, long want) throws Exception {
    String[] told = numbers.isBlank() ? new String[0] : numbers.split(",");
    Object[] with = new Object[told.length];
    for (int i = 0; i < told.length; i++) with[i] = Integer.parseInt(told[i].trim());
    Method m = called(name, with.length);
    if (m == null) { fault(line, "there is no such call"); return; }
    long got = ((Number) m.invoke(x, with)).longValue();
    made++;
    shown.add(name);
    if (got != want) fault(line, name + "(" + numbers + ") answered " + got + ", the page says " + want);
  }

  static void read(int line, String words) throws Exception {
    Matcher call = CALL.matcher(words);
    Matcher letters = LETTERS.matcher(words);
    if (NEW.matcher(words).matches()) x = new ExchangeRows();
    else if (x == null) fault(line, "no object was made");
    else if (call.matches()) call(line, call.group(1), call.group(2), Long.parseLong(call.group(3)));
    else if (letters.matches()) {
      shown.add("letter");
      for (char c : letters.group(1).toCharArray()) x.letter(c);
    }
    else if (!words.isBlank()) fault(line, "can't be read: " + words);
  }

  public static void main(String[] args) throws Exception {
    Path source = Path.of(args.length > 0 ? args[0] : "src/main/java/ExchangeRows.java").toAbsolutePath();
    String[] lines = Files.readString(source.resolve("../../../../README.md").normalize()).split("\n");
    boolean inside = false;
    for (int i = 0; i < lines.length; i++) {
      if (lines[i].startsWith("```")) { inside = lines[i].equals("```java"); x = null; }
      else if (inside) read(i + 1, lines[i].trim());
    }
    for (Method m : ExchangeRows.class.getDeclaredMethods()) {
      if (Modifier.isPublic(m.getModifiers()) && !shown.contains(m.getName())) fault(0, m.getName() + " is shown nowhere");
    }
    System.out.println("ReadmeTest: " + made + " calls, " + wrong + " wrong");
    if (wrong > 0) System.exit(1);
  }
}
