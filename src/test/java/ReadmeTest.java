import java.io.IOException;
import java.lang.reflect.Method;
import java.lang.reflect.Modifier;
import java.nio.file.DirectoryStream;
import java.nio.file.Files;
import java.nio.file.Path;
import java.util.ArrayList;
import java.util.List;
import java.util.Set;
import java.util.TreeSet;
import java.util.regex.Matcher;
import java.util.regex.Pattern;

/** What README.md says is so: its rows of calls are made one behind the other, and each answers what stands behind it. */
public final class ReadmeTest {
  private static final Pattern MADE = Pattern.compile("TownAir town = new TownAir\\(\\);");
  private static final Pattern WRITTEN = Pattern.compile("for \\(char letter : \"([^\"]*)\"\\.toCharArray\\(\\)\\) town\\.write\\(letter\\);");
  private static final Pattern CALL = Pattern.compile("town\\.(\\w+)\\(([-0-9, ]*)\\);\\s+// (BAD|NO|FULL|NONE|-?\\d+)\\b.*");

  private static final Set<String> shown = new TreeSet<>();
  private static TownAir town;
  private static int calls;

  public static void main(String[] args) throws IOException, ReflectiveOperationException {
    List<String> lines = Files.readAllLines(Path.of("README.md"));
    for (String row : javaRows(lines)) follow(row);
    Due.is("each call of the face is shown, but " + notShown(), notShown().size(), 0);
    Due.is("the object is used for 512 calls at most", calls <= 512 ? 1 : 0, 1);
    constants(String.join("\n", lines));
    tests(String.join("\n", lines));
    Due.end();
  }

  private static List<String> javaRows(List<String> lines) {
    List<String> rows = new ArrayList<>();
    boolean inside = false;
    for (String line : lines) {
      if (line.startsWith("```")) {
        inside = line.equals("```java");
      } else if (inside) {
        rows.add(line);
      }
    }
    Due.is("README.md shows calls", rows.isEmpty() ? 0 : 1, 1);
    return rows;
  }

  private static void follow(String row) throws ReflectiveOperationException {
    Matcher written = WRITTEN.matcher(row);
    Matcher call = CALL.matcher(row);
    if (MADE.matcher(row).matches()) {
      town = new TownAir();
      calls = 0;
    } else if (town != null && written.matches()) {
      Due.write(town, written.group(1));
      calls += written.group(1).length();
    } else if (town != null && call.matches()) {
      Due.is("README.md: " + row.trim(), made(call.group(1), call.group(2)), valueOf(call.group(3)));
      calls++;
    } else {
      Due.is("README.md: a row that can't be followed: " + row, 0, 1);
    }
  }

  private static int made(String name, String numbers) throws ReflectiveOperationException {
    String[] parts = numbers.isBlank() ? new String[0] : numbers.split(",");
    Object[] given = new Object[parts.length];
    Class<?>[] types = new Class<?>[parts.length];
    for (int i = 0; i < parts.length; i++) {
      given[i] = Integer.valueOf(parts[i].trim());
      types[i] = int.class;
    }
    shown.add(name);
    return (Integer) TownAir.class.getMethod(name, types).invoke(town, given);
  }

  private static int valueOf(String answer) throws ReflectiveOperationException {
    return answer.matches("-?\\d+") ? Integer.parseInt(answer) : TownAir.class.getField(answer).getInt(null);
  }

  private static Set<String> notShown() {
    Set<String> missing = new TreeSet<>();
    for (Method m : TownAir.class.getDeclaredMethods()) {
      if (Modifier.isPublic(m.getModifiers()) && !shown.contains(m.getName())) missing.add(m.getName());
    }
    return missing;
  }

  /** `NAME` (number .. */
  private static void constants(String page) throws ReflectiveOperationException {
    Matcher told = Pattern.compile("`([A-Z]+)` \\((-\\d+)").matcher(page);
    Set<String> names = new TreeSet<>();
    while (told.find()) {
      names.add(told.group(1));
      Due.is("README.md: " + told.group(1), valueOf(told.group(1)), Integer.parseInt(told.group(2)));
    }
    Due.is("README.md tells the four constants, not " + names, names.equals(Set.of("BAD", "NO", "FULL", "NONE")) ? 1 : 0, 1);
  }

  private static void tests(String page) throws IOException {
    Set<String> told = new TreeSet<>();
    Matcher m = Pattern.compile("(?m)^- `(\\w+)`:").matcher(page);
    while (m.find()) told.add(m.group(1));
    Set<String> there = new TreeSet<>();
    try (DirectoryStream<Path> files = Files.newDirectoryStream(Path.of("src/test/java"), "*.java")) {
      for (Path file : files) there.add(file.getFileName().toString().replace(".java", ""));
    }
    Due.is("README.md names " + told + ", there are " + there, told.equals(there) ? 1 : 0, 1);
  }
}
