import java.io.IOException;
import java.lang.reflect.Constructor;
import java.lang.reflect.Field;
import java.lang.reflect.Method;
import java.lang.reflect.Modifier;
import java.nio.file.Files;
import java.nio.file.Path;
import java.util.List;
import java.util.Set;
import java.util.TreeSet;
import java.util.regex.Matcher;
import java.util.regex.Pattern;

/** The rules of LANGUAGE.md that can be seen from the source and the class. */
public final class LanguageTest {
  private static final String FACE = "feed(int,long) town() sayings() fault() count(int) person(int,int) tie(int,int) "
      + "saying(int,int) pair(int,int,int) rule(int,int) begin(int,int) go(int) notice(int,int,int) holds(int,int,int) "
      + "holders(int) way(int,int,int) nine(int,int,int) below(int,int) curve(int,int,int) fresh() ask(int,int,int) "
      + "forget() end(int) who(int) best(int,int,int,int) reach(int,int,int) many(int,int) began(int,int,int) "
      + "speak(int,int) road(int,int,int) report(int,int) silence() source(int,int) pace() seed(int) keep(int) goBack(int)";
  private static final Set<String> CONSTANTS = Set.of("NONE", "NOBODY", "UNKNOWN", "OUTSIDE", "NOT", "FULL");
  private static int wrong = 0;

  public static void main(String[] args) throws IOException {
    face();
    classesInside();
    List<String> lines = Files.readAllLines(Path.of("src/main/java/TwoRumours.java"));
    words(lines);
    methodsStayShort(lines);
    System.out.println("the language: " + wrong + " wrong");
    if (wrong != 0) {
      System.exit(1);
    }
  }

  private static void blame(String what) {
    wrong++;
    System.out.println(what);
  }

  private static void face() {
    Class<?> c = TwoRumours.class;
    if (!Modifier.isPublic(c.getModifiers()) || !Modifier.isFinal(c.getModifiers())) {
      blame("the class is not public and final");
    }
    Set<String> found = new TreeSet<>();
    Set<String> names = new TreeSet<>();
    for (Method m : c.getDeclaredMethods()) {
      if (Modifier.isPublic(m.getModifiers())) {
        StringBuilder s = new StringBuilder(m.getName()).append('(');
        for (Class<?> p : m.getParameterTypes()) {
          s.append(s.charAt(s.length() - 1) == '(' ? "" : ",").append(p.getName());
        }
        found.add(s.append(')').toString());
        names.add(m.getName());
        if (m.getReturnType() != int.class || Modifier.isStatic(m.getModifiers())) {
          blame("not an int of an object: " + s);
        }
      }
    }
    if (!found.equals(new TreeSet<>(List.of(FACE.split(" "))))) {
      blame("the public methods are " + found);
    }
    for (Method m : c.getDeclaredMethods()) {
      if (!Modifier.isPublic(m.getModifiers()) && (!Modifier.isPrivate(m.getModifiers()) || names.contains(m.getName()))) {
        blame("not private, or with a public name: " + m);
      }
    }
    for (Class<?> inside : c.getDeclaredClasses()) {
      for (Method m : inside.getDeclaredMethods()) {
        if (names.contains(m.getName())) {
          blame("with a public name: " + m);
        }
      }
    }
    for (Field f : c.getDeclaredFields()) {
      boolean open = CONSTANTS.contains(f.getName());
      if (open != Modifier.isPublic(f.getModifiers()) || !open && !Modifier.isPrivate(f.getModifiers())) {
        blame("a field that is open, or should be: " + f);
      }
    }
    Constructor<?>[] made = c.getDeclaredConstructors();
    if (made.length != 1 || !Modifier.isPublic(made[0].getModifiers()) || made[0].getParameterCount() != 0) {
      blame("the constructor");
    }
  }

  private static void classesInside() {
    Class<?>[] inside = TwoRumours.class.getDeclaredClasses();
    if (inside.length > 11) {
      blame("too many classes");
    }
    for (Class<?> c : inside) {
      if (!Modifier.isStatic(c.getModifiers())) {
        blame("not static: " + c);
      }
      fields(c);
    }
    fields(TwoRumours.class);
  }

  private static void fields(Class<?> c) {
    int own = 0;
    for (Field f : c.getDeclaredFields()) {
      if (!Modifier.isStatic(f.getModifiers())) {
        own++;
      } else if (!Modifier.isFinal(f.getModifiers())) {
        blame("static, not final: " + f);
      }
    }
    if (own > 20) {
      blame(c + " has " + own + " fields");
    }
    for (Method m : c.getDeclaredMethods()) {
      if (m.getParameterCount() > 7) {
        blame("too many parameters: " + m);
      }
    }
  }

  private static void words(List<String> lines) {
    Pattern banned = Pattern.compile("\\b(throw|throws|try|catch|synchronized|assert|instanceof|double|float|Exact|package|System\\.(?!arraycopy)|Integer\\.(?!bitCount)|Math\\.(?!min|max)|Arrays\\.(?!fill))\\b|->|::|\\+ \"|\" \\+");
    for (int i = 0; i < lines.size(); i++) {
      String code = lines.get(i).replaceAll("//.*|/\\*\\*.*", "");
      Matcher m = banned.matcher(code);
      if (m.find()) {
        blame("line " + (i + 1) + ": " + m.group());
      }
      for (char c : lines.get(i).toCharArray()) {
        if (c > 126 || c < 32) {
          blame("line " + (i + 1) + ": sign " + (int) c);
        }
      }
      if (code.startsWith("import") && !code.equals("import java.util.Arrays;")) {
        blame(code);
      }
      boolean making = Pattern.compile("\\bnew \\w").matcher(code).find();
      boolean early = code.contains("final ") || i < lines.size() && code.matches("    (  )?\\w+(\\[i\\])? = new .*;");
      if (making && !early) {
        blame("made outside a constructor, line " + (i + 1) + ": " + code.trim());
      }
    }
  }

  private static void methodsStayShort(List<String> lines) {
    int start = -1;
    for (int i = 0; i < lines.size(); i++) {
      String line = lines.get(i);
      if (line.matches("  (  )?[\\w].*\\) \\{")) {
        start = i;
      } else if (start >= 0 && line.matches("  (  )?\\}")) {
        if (i - start > 60) {
          blame("a long method at line " + (start + 1));
        }
        start = -1;
      }
    }
  }
}
