import java.lang.reflect.Constructor;
import java.lang.reflect.Field;
import java.lang.reflect.Method;
import java.lang.reflect.Modifier;
import java.nio.file.Files;
import java.nio.file.Path;
import java.util.ArrayList;
import java.util.Arrays;
import java.util.List;
import java.util.Set;
import java.util.TreeSet;
import java.util.regex.Matcher;
import java.util.regex.Pattern;

/** The face that the document tells, and those rules of ../shared/LANGUAGE.md that can be seen from outside. */
public final class RulesTest {
  static final String FACE = "int row(int,int);int start(int,int,int);int of(int,int);int term(int,int);long kept(int,int,int);int stays(int);"
    + "int common(int);int divided(int,int);int unlike(int,int);int seed(int);int table(int,int,int);int begins(int,int);int entry(int,int);"
    + "int value(int,int);int power(int,int);int exchange(int);int walk();int letter(int);int whole(int);int sinks(int);int ring(int,int);"
    + "int reached(int,int);int fewest(int,int,int);int lots(int,int,int);int laws(int,int);int figures(int,int);int judge(int,int);"
    + "int list(int,int);int put(int,int,int);long look(int,int);int lays(int,int,int);int undo();int image();int on();int count(int)";
  static int wrong = 0;

  static void must(boolean so, String what) {
    if (!so) { wrong++; System.out.println("RulesTest: " + what); }
  }

  static String told(Method m) {
    StringBuilder b = new StringBuilder(m.getReturnType().getSimpleName()).append(' ').append(m.getName()).append('(');
    for (Class<?> p : m.getParameterTypes()) b.append(b.charAt(b.length() - 1) == '(' ? "" : ",").append(p.getSimpleName());
    return b.append(')').toString();
  }

  static void face() {
    Set<String> want = new TreeSet<>(Arrays.asList(FACE.split(";")));
    Set<String> have = new TreeSet<>();
    for (Method m : ExchangeRows.class.getDeclaredMethods()) {
      if (Modifier.isPublic(m.getModifiers()) && !Modifier.isStatic(m.getModifiers())) have.add(told(m));
      else must(Modifier.isPrivate(m.getModifiers()), "rule 1: neither public nor private: " + m);
    }
    must(have.equals(want), "rule 1: the face is " + have);
    int at = Modifier.PUBLIC | Modifier.FINAL;
    must((ExchangeRows.class.getModifiers() & at) == at, "rule 1: the class is public and final");
    Constructor<?>[] made = ExchangeRows.class.getDeclaredConstructors();
    must(made.length == 1 && made[0].getParameterCount() == 0 && Modifier.isPublic(made[0].getModifiers()), "rule 1: the constructor");
  }

  static void members(Class<?> c, Set<String> publicNames) {
    int fields = 0;
    for (Field f : c.getDeclaredFields()) {
      boolean isStatic = Modifier.isStatic(f.getModifiers());
      must(Modifier.isPrivate(f.getModifiers()) || c != ExchangeRows.class, "rule 1: not private: " + f);
      must(!isStatic || Modifier.isFinal(f.getModifiers()), "rule 5: not final: " + f);
      if (!isStatic) fields++;
    }
    must(fields <= 20, "rule 11: fields of " + c);
    for (Method m : c.getDeclaredMethods()) {
      must(m.getParameterCount() <= 7, "rule 11: parameters of " + m);
      must(!m.isSynthetic() && !m.isBridge(), "made by the compiler: " + m);
      if (c != ExchangeRows.class || Modifier.isPrivate(m.getModifiers())) must(!publicNames.contains(m.getName()), "rule 1: the name of a public one: " + m);
    }
  }

  /** The program without its comments and its signs in quotes. */
  static String bare(String text) {
    return text.replaceAll("(?s)/\\*.*?\\*/", "").replaceAll("//[^\n]*", "").replaceAll("'(\\\\.|[^'\\\\])'", "' '").replaceAll("\"(\\\\.|[^\"\\\\])*\"", "\"\"");
  }

  static void words(String text) {
    String code = bare(text);
    for (String word : new String[] {"throw", "throws", "try", "catch", "synchronized", "assert", "finally", "volatile", "native", "equals", "hashCode",
      "toString", "System.out", "System.err", "System.exit", "System.nanoTime", "currentTimeMillis", "Thread", "Random"}) {
      must(!Pattern.compile("\\b" + Pattern.quote(word) + "\\b").matcher(code).find(), "rules 4, 6, 13: " + word);
    }
    must(!code.contains("->") && !code.contains("::"), "rule 2: a lambda or a method reference");
    must(!Pattern.compile("\\bstatic\\s*\\{").matcher(code).find(), "rule 5: a static block");
    must(!Pattern.compile("\\w+Exact\\b").matcher(code).find(), "rule 4: Exact");
    must(!Pattern.compile("\\bpackage\\b").matcher(code).find(), "a package line");
    Matcher imports = Pattern.compile("(?m)^import (.*);").matcher(code);
    while (imports.find()) must(List.of("java.util.Arrays", "java.util.ArrayList", "java.util.List", "java.util.Iterator").contains(imports.group(1)), "rule 4: import " + imports.group(1));
    Matcher nested = Pattern.compile("(?m)^[ \\t]+(.*)\\b(class|record|interface|enum) \\w+").matcher(code);
    while (nested.find()) must(nested.group(1).contains("static") && !nested.group(1).contains("public"), "rule 2: " + nested.group().trim());
    for (int i = 0; i < text.length(); i++) must(text.charAt(i) < 128, "a sign above 127 at " + i);
  }

  /** A method's head stands 4 or 8 blanks in, its end as far. */
  static void lengths(String text) {
    String[] lines = text.split("\n");
    for (int i = 0; i < lines.length; i++) {
      Matcher head = Pattern.compile("^( {4}| {8})(?!if|for|while|switch|else)\\w[\\w\\[\\]<> ]*\\(.*\\) \\{$").matcher(lines[i]);
      if (!head.matches()) continue;
      int end = i;
      while (end < lines.length && !lines[end].equals(head.group(1) + "}")) end++;
      must(end - i <= 60, "rule 11: " + (end - i) + " lines: " + lines[i].trim());
    }
  }

  public static void main(String[] args) throws Exception {
    Path source = Path.of(args.length > 0 ? args[0] : "src/main/java/ExchangeRows.java");
    String text = Files.readString(source);
    Set<String> publicNames = new TreeSet<>();
    for (String f : FACE.split(";")) publicNames.add(f.substring(f.indexOf(' ') + 1, f.indexOf('(')));
    face();
    List<Class<?>> all = new ArrayList<>(List.of(ExchangeRows.class));
    all.addAll(Arrays.asList(ExchangeRows.class.getDeclaredClasses()));
    must(all.size() <= 12, "rule 11: classes");
    for (Class<?> c : all) {
      members(c, publicNames);
      must(c.getDeclaredClasses().length == 0 || c == ExchangeRows.class, "a class inside a class inside");
    }
    words(text);
    lengths(text);
    System.out.println("RulesTest: " + wrong + " wrong");
    if (wrong > 0) System.exit(1);
  }
}
