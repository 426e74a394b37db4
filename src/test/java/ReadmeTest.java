import java.io.File;
import java.io.IOException;
import java.lang.reflect.Method;
import java.lang.reflect.Modifier;
import java.nio.charset.StandardCharsets;
import java.nio.file.Files;
import java.nio.file.Path;
import java.util.ArrayList;
import java.util.List;
import java.util.Set;
import java.util.TreeSet;
import java.util.regex.Matcher;
import java.util.regex.Pattern;

/** The program in README.md is compiled and run as it stands there; each answer is the one that it tells. */
public final class ReadmeTest {
  private static final Pattern SHOWN = Pattern.compile("\\s*show\\((x\\..*)\\);\\s*// (-?\\d+).*");

  public static void main(String[] args) throws IOException, InterruptedException {
    List<String> readme = Files.readAllLines(Path.of("README.md"));
    List<String> program = blockAfter(readme, "```java");
    List<String> answers = answersOf(program);
    int at = 0;
    for (String line : program) {
      Matcher m = SHOWN.matcher(line);
      if (m.matches()) {
        Check.same("README.md: " + m.group(1), at < answers.size() ? answers.get(at) : "nothing", m.group(2));
        at++;
      } else {
        Check.due("README.md shows an answer and does not tell it: " + line.trim(), line.contains("show(x") ? 1 : 0, 0);
      }
    }
    Check.due("so many answers are told as there are", at, answers.size());
    Check.due("some are told", at > 20 ? 1 : 0, 1);
    everyCallIsTold(readme);
    Check.end();
  }

  private static List<String> blockAfter(List<String> lines, String mark) {
    int start = lines.indexOf(mark);
    List<String> block = new ArrayList<>();
    for (int i = start + 1; start >= 0 && i < lines.size() && !lines.get(i).equals("```"); i++) {
      block.add(lines.get(i));
    }
    return block;
  }

  /** What the program prints, with what the compiler says where it does not compile. */
  private static List<String> answersOf(List<String> program) throws IOException, InterruptedException {
    Path dir = Files.createTempDirectory("readme");
    Path file = dir.resolve("Example.java");
    Path printed = dir.resolve("printed");
    Files.write(file, program, StandardCharsets.UTF_8);
    String java = System.getProperty("java.home") + File.separator + "bin" + File.separator + "java";
    Process run = new ProcessBuilder(java, "-cp", System.getProperty("java.class.path"), file.toString())
        .redirectErrorStream(true).redirectOutput(printed.toFile()).start();
    Check.due("the program of README.md ends well", run.waitFor(), 0);
    List<String> lines = Files.readAllLines(printed);
    Files.delete(printed);
    Files.delete(file);
    Files.delete(dir);
    return lines;
  }

  /** Each public call stands in the table with as many arguments as it has. */
  private static void everyCallIsTold(List<String> readme) {
    Set<String> told = new TreeSet<>();
    Pattern call = Pattern.compile("`(\\w+)\\(([^)]*)\\)`");
    for (String line : readme) {
      if (line.startsWith("| `")) {
        Matcher m = call.matcher(line.substring(0, line.indexOf('|', 1)));
        while (m.find()) {
          told.add(m.group(1) + " " + (m.group(2).isEmpty() ? 0 : m.group(2).split(",").length));
        }
      }
    }
    Set<String> face = new TreeSet<>();
    for (Method m : TwoRumours.class.getDeclaredMethods()) {
      if (Modifier.isPublic(m.getModifiers())) {
        face.add(m.getName() + " " + m.getParameterCount());
      }
    }
    Check.same("the calls that README.md tells", told.toString(), face.toString());
  }
}
