import java.lang.reflect.Constructor;
import java.lang.reflect.Field;
import java.lang.reflect.Method;
import java.lang.reflect.Modifier;
import java.nio.file.Files;
import java.nio.file.Path;
import java.util.Set;
import java.util.TreeSet;
import java.util.regex.Matcher;
import java.util.regex.Pattern;

/** The rules of LANGUAGE.md, as far as they can be seen in the source and in the compiled class. */
public final class RulesTest {
  private static final String FACE = "back(int) be(int,int,int,int) beats(int,int,int) blots() canBe() centuries(int,int) circles() compare(int,int)"
      + " count(int) crowned(int) drawn(int,int) end(int) enter(int) fault() feed(int,int,int,int,int) few(int,int) force(int) forget() heir(int)"
      + " image(int) ladder(int,int) law() look(int) never() of(int,int) orders() pass() person(int,int) placed(int,int) race(int) ranking(int) row()"
      + " seen(int,int) status() stopped() strength(int,int,int) take(int) terms(int,int) undo()";

  private static String signature(Method m) {
    StringBuilder b = new StringBuilder(m.getName()).append('(');
    for (Class<?> t : m.getParameterTypes()) b.append(b.charAt(b.length() - 1) == '(' ? "" : ",").append(t.getName());
    return b.append(')').toString();
  }

  private static void face() {
    Set<String> open = new TreeSet<>();
    Set<String> names = new TreeSet<>();
    for (Method m : NoSecond.class.getDeclaredMethods()) {
      if (Modifier.isPublic(m.getModifiers())) {
        open.add(signature(m));
        names.add(m.getName());
        boolean isLong = m.getName().equals("ladder") || m.getName().equals("few");
        Support.so(m + " answers as the face tells", m.getReturnType() == (isLong ? long.class : int.class));
      } else {
        Support.so(m + " is private", Modifier.isPrivate(m.getModifiers()));
      }
    }
    Support.so("the face: " + open, String.join(" ", open).equals(FACE));
    Support.so("final", Modifier.isFinal(NoSecond.class.getModifiers()) && Modifier.isPublic(NoSecond.class.getModifiers()));
    Support.so("one constructor", NoSecond.class.getDeclaredConstructors().length == 1 && NoSecond.class.getConstructors().length == 1);
    for (Field f : NoSecond.class.getDeclaredFields()) {
      Support.so(f + " is private or NONE", Modifier.isPrivate(f.getModifiers()) || f.getName().equals("NONE"));
    }
    for (Method m : NoSecond.class.getDeclaredMethods()) {
      Support.so(m + " has a name of its own", Modifier.isPublic(m.getModifiers()) || !names.contains(m.getName()));
    }
    for (Class<?> c : NoSecond.class.getDeclaredClasses()) inside(c, names);
    Support.so("some twelve classes", NoSecond.class.getDeclaredClasses().length < 12);
    fields(NoSecond.class);
  }

  private static void inside(Class<?> c, Set<String> names) {
    Support.so(c + " is private and static", Modifier.isPrivate(c.getModifiers()) && Modifier.isStatic(c.getModifiers()));
    for (Method m : c.getDeclaredMethods()) {
      Support.so(m + " has a name of its own", !names.contains(m.getName()));
      Support.so(m + " has seven parameters at most", m.getParameterCount() <= 7);
    }
    for (Constructor<?> k : c.getDeclaredConstructors()) Support.so(k + " has seven parameters at most", k.getParameterCount() <= 7);
    fields(c);
  }

  private static void fields(Class<?> c) {
    int own = 0;
    for (Field f : c.getDeclaredFields()) {
      if (!Modifier.isStatic(f.getModifiers())) own++;
      else Support.so(f + " is a constant", Modifier.isFinal(f.getModifiers()));
    }
    Support.so(c + " has some twenty fields, not " + own, own <= 20);
  }

  private static void source(String file) throws Exception {
    String text = Files.readString(Path.of(file));
    for (int i = 0; i < text.length(); i++) Support.so("sign " + i + " is plain", text.charAt(i) == 10 || text.charAt(i) >= 32 && text.charAt(i) < 127);
    String bare = text.replaceAll("(?s)/\\*.*?\\*/", " ").replaceAll("//[^\n]*", " ").replaceAll("\"[^\"\n]*\"", "\"\"").replaceAll("'[^']'", "' '");
    for (String word : new String[] {"throw", "throws", "try", "catch", "synchronized", "assert", "package", "instanceof", "Thread", "Object", "record",
        "protected", "volatile", "transient", "native", "double", "float", "hashCode", "toString", "super", "var", "Random", "yield"}) {
      Support.so("no " + word, !Pattern.compile("\\b" + word + "\\b").matcher(bare).find());
    }
    for (String sign : new String[] {"->", "::", "@", "...", "Exact", "?>"}) Support.so("no " + sign, !bare.contains(sign));
    library(bare);
    methods(bare);
  }

  private static void library(String bare) {
    Matcher imports = Pattern.compile("import ([\\w.]+);").matcher(bare);
    while (imports.find()) Support.so(imports.group(), imports.group(1).equals("java.util.Arrays"));
    Matcher calls = Pattern.compile("\\b(System|Arrays|Math|Integer|Long|String)\\.(\\w+)").matcher(bare);
    Set<String> allowed = Set.of("System.arraycopy", "Arrays.fill", "Arrays.copyOf", "Math.max", "Math.min", "Integer.bitCount");
    while (calls.find()) Support.so(calls.group(), allowed.contains(calls.group()));
  }

  private static void methods(String bare) {
    String[] lines = bare.split("\n");
    Pattern head = Pattern.compile("^( {4}| {8})(?! )(?!.*\\bclass\\b)(?!.*=).*\\) \\{$");
    int found = 0;
    for (int i = 0; i < lines.length; i++) {
      Matcher m = head.matcher(lines[i]);
      if (!m.matches() || Pattern.compile("\\b(if|for|while|switch|else)\\b").matcher(lines[i]).find()) continue;
      found++;
      int end = i + 1;
      while (end < lines.length && !lines[end].equals(m.group(1) + "}")) end++;
      Support.so("short: " + lines[i].trim() + " " + (end - i), end - i <= 60);
    }
    Support.so("methods were found: " + found, found > 100);
  }

  public static void main(String[] args) throws Exception {
    face();
    source(args.length > 0 ? args[0] : "src/main/java/NoSecond.java");
    Support.close("RulesTest");
  }
}
