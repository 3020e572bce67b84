import java.io.IOException;
import java.lang.management.ManagementFactory;
import java.lang.reflect.Constructor;
import java.lang.reflect.Field;
import java.lang.reflect.Method;
import java.lang.reflect.Modifier;
import java.nio.file.Files;
import java.nio.file.Path;
import java.util.Set;
import java.util.TreeSet;
import java.util.regex.Matcher;
import java.util.regex.Pattern;

/** The face of the document, the rules of LANGUAGE.md that can be seen from outside, and the room that calls take. */
public final class RuleTest {
  static final String[] FACE = {"write 1", "wipe 0", "fault 0", "lay 0", "serf 2", "man 2", "move 2", "leave 1", "send 2", "pass 1", "undo 0",
      "behind 3", "ends 1", "live 2", "way 2", "hunt 2", "proof 2", "gap 2", "seen 3", "forget 0", "lords 1", "leap 1", "sure 4", "year 3",
      "keep 0", "back 0", "count 1"};

  public static void main(String[] args) throws IOException {
    face();
    nested();
    source();
    room();
    anyNumbers();
    Due.end();
  }

  static void face() {
    Set<String> want = new TreeSet<>(Set.of(FACE));
    Set<String> got = new TreeSet<>();
    for (Method m : TownAir.class.getDeclaredMethods()) {
      if (Modifier.isPrivate(m.getModifiers())) {
        for (String name : FACE) Due.is("private " + m.getName() + " bears a public name", name.startsWith(m.getName() + " ") ? 1 : 0, 0);
        continue;
      }
      got.add(m.getName() + " " + m.getParameterCount());
      boolean ints = m.getReturnType() == int.class;
      for (Class<?> p : m.getParameterTypes()) ints &= p == int.class;
      Due.is(m + " is of ints, public and no static", ints && m.getModifiers() == Modifier.PUBLIC ? 1 : 0, 1);
    }
    Due.is("methods " + got, got.equals(want) ? 1 : 0, 1);
    Set<String> constants = new TreeSet<>();
    for (Field f : TownAir.class.getDeclaredFields()) {
      if (Modifier.isPrivate(f.getModifiers())) continue;
      constants.add(f.getName());
      Due.is(f + " is a constant", Modifier.isStatic(f.getModifiers()) && Modifier.isFinal(f.getModifiers()) && f.getType() == int.class ? 1 : 0, 1);
    }
    Due.is("constants " + constants, constants.equals(Set.of("BAD", "NO", "FULL", "NONE")) ? 1 : 0, 1);
    Constructor<?>[] made = TownAir.class.getDeclaredConstructors();
    Due.is("one constructor", made.length, 1);
    Due.is("it is public and bare", Modifier.isPublic(made[0].getModifiers()) && made[0].getParameterCount() == 0 ? 1 : 0, 1);
    Due.is("public and final", TownAir.class.getModifiers() & (Modifier.PUBLIC | Modifier.FINAL), Modifier.PUBLIC | Modifier.FINAL);
  }

  static void nested() {
    Class<?>[] inside = TownAir.class.getDeclaredClasses();
    Due.is("at most twelve classes", inside.length <= 11 ? 1 : 0, 1);
    for (Class<?> c : inside) {
      int mod = c.getModifiers();
      Due.is(c + " is static", Modifier.isStatic(mod) ? 1 : 0, 1);
      Due.is(c + " is not public", Modifier.isPublic(mod) || Modifier.isProtected(mod) ? 1 : 0, 0);
      Due.is(c + " has twenty fields at most", c.getDeclaredFields().length <= 20 ? 1 : 0, 1);
      for (Method m : c.getDeclaredMethods()) Due.is(m + " takes seven at most", m.getParameterCount() <= 7 ? 1 : 0, 1);
      for (Field f : c.getDeclaredFields()) {
        if (Modifier.isStatic(f.getModifiers())) Due.is(f + " is final", Modifier.isFinal(f.getModifiers()) ? 1 : 0, 1);
      }
    }
  }

  static void source() throws IOException {
    String all = Files.readString(Path.of("src/main/java/TownAir.java"));
    String code = all.replaceAll("(?s)/\\*.*?\\*/", " ").replaceAll("//[^\n]*", " ").replaceAll("\"[^\"\n]*\"", "\"\"");
    String[] words = {"throw", "throws", "try", "catch", "finally", "synchronized", "assert", "import", "package", "volatile", "transient",
        "native", "protected", "Object", "Random", "Thread", "System\\.(?!arraycopy)\\w+", "hashCode", "toString", "Exact", "->", "::",
        "while\\s*\\(\\s*true", "for\\s*\\(\\s*;"};
    for (String word : words) {
      Matcher m = Pattern.compile(word.matches("\\w+") ? "\\b" + word + "\\b" : word).matcher(code);
      Due.is("the source says " + word, m.find() ? 1 : 0, 0);
    }
    for (int i = 0; i < all.length(); i++) if (all.charAt(i) > 126) Due.is("sign " + i, all.charAt(i), '?');
    int open = 0;
    for (String line : all.split("\n")) {
      boolean heads = line.matches("^( {4}| {8})[A-Za-z].*\\) \\{$");
      if (heads || line.matches("^( {4}| {8})\\}$")) open = 0;
      open++;
      if (open == 61) Due.is("a method has more than sixty lines by: " + line, 61, 60);
    }
  }

  /** Rows are made in the constructor: no call makes an object. */
  static void room() {
    com.sun.management.ThreadMXBean bean = (com.sun.management.ThreadMXBean) ManagementFactory.getThreadMXBean();
    long id = Thread.currentThread().getId();
    TownAir[] asked = new TownAir[20];
    for (int i = 0; i < asked.length; i++) asked[i] = new TownAir();
    everyCall(asked[0], 1);
    long before = bean.getThreadAllocatedBytes(id);
    for (int i = 0; i < asked.length; i++) everyCall(asked[i], i);
    long used = bean.getThreadAllocatedBytes(id) - before;
    Due.is("bytes made by calls (" + used + ")", used < 10000 ? 1 : 0, 1);
    long ahead = bean.getThreadAllocatedBytes(id);
    TownAir t = new TownAir();
    long made = bean.getThreadAllocatedBytes(id) - ahead;
    Due.is("bytes of an object (" + made + ")", made < 12000 ? 1 : 0, 1);
    Due.is("a new one", t.count(0), 5);
  }

  static int everyCall(TownAir t, int i) {
    int sum = 0;
    for (int k = 0; k < Due.FIRST.length(); k++) sum += t.write(Due.FIRST.charAt(k));
    sum += t.fault() + t.lay() + t.wipe() + t.serf(0, i) + t.man(0, i) + t.move(0, i) + t.leave(1) + t.send(0, i) + t.pass(1) + t.undo();
    sum += t.behind(0, 9, i) + t.ends(i) + t.live(i, 0) + t.way(i, 1) + t.hunt(i, 0) + t.proof(0, i) + t.gap(0, i) + t.seen(0, 1, i);
    sum += t.lords(i) + t.forget() + t.leap(9) + t.sure(3, i, 1, 0) + t.year(i, 9, 0) + t.keep() + t.back() + t.count(i);
    return sum;
  }

  /** Whatever the numbers are, a call answers, and bad ones change nothing. */
  static void anyNumbers() {
    int[] odd = {Integer.MIN_VALUE, -100, -4, -1, 0, 1, 2, 3, 5, 6, 60, 99, 100, 127, 999, 65536, Integer.MAX_VALUE};
    for (int a : odd) {
      for (int b : odd) anyNumbers(new TownAir(), a, b, odd);
    }
  }

  static void anyNumbers(TownAir t, int a, int b, int[] odd) {
    t.write(a);
    t.leave(a);
    t.pass(a);
    t.ends(a);
    t.lords(a);
    t.leap(a);
    t.count(a);
    t.serf(a, b);
    t.man(a, b);
    t.move(a, b);
    t.send(a, b);
    t.live(a, b);
    t.way(a, b);
    t.hunt(a, b);
    t.proof(a, b);
    t.gap(a, b);
    for (int c : odd) {
      t.behind(a, b, c);
      t.seen(a, b, c);
      t.year(a, b, c);
      for (int d : odd) t.sure(a, b, c, d);
    }
    Due.is("still a town", t.count(0), 5);
  }
}
