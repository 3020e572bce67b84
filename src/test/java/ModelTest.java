import java.math.BigInteger;
import java.util.ArrayList;
import java.util.List;
import java.util.Random;
import java.util.regex.Matcher;
import java.util.regex.Pattern;

/** Runs of calls by a fixed seed, each answer next to that of a slow model written from the document alone. */
public final class ModelTest {
  static final int BAD = -1, NO = -2, FULL = -3, NONE = -4;

  /** A town: nothing but values, copied whole for each question. */
  static final class Town implements Cloneable {
    int n = 20, c = 4, day = 0;
    boolean[] guild = new boolean[6];
    List<int[]> serfs = new ArrayList<>(); // kind, lord, quarter, how, stayed, met
    List<int[]> men = new ArrayList<>(); // lord, quarter, step
    List<int[]> notches = new ArrayList<>();

    Town copy() {
      Town t = new Town();
      t.n = n;
      t.c = c;
      t.day = day;
      t.guild = guild.clone();
      for (int[] s : serfs) t.serfs.add(s.clone());
      for (int[] m : men) t.men.add(m.clone());
      for (int[] w : notches) t.notches.add(w.clone());
      return t;
    }

    boolean manIn(int lord, int q) {
      for (int[] m : men) if (m[0] == lord && m[1] == (q + c) % c) return true;
      return false;
    }

    boolean found(int kind, int lord, int q) {
      boolean here = manIn(lord, q);
      switch (kind) {
        case 1: return here && !guild[q];
        case 2: return here || manIn(lord, q + 1) || manIn(lord, q - 1);
        default: return here;
      }
    }

    void pass() {
      for (int[] s : serfs) {
        if (s[3] != 0) continue;
        boolean found = found(s[0], s[1], s[2]);
        if (found && s[0] == 3) s[5]++;
        if (found && (s[0] != 3 || s[5] == 2)) s[3] = 2;
        else if (++s[4] == n) s[3] = 3;
      }
      for (int[] m : men) m[1] = (m[1] + m[2]) % c;
      day++;
    }

    Town behind(int days) {
      Town t = copy();
      for (int i = 0; i < days; i++) t.pass();
      return t;
    }

    int so(int how) {
      int k = 0;
      for (int[] s : serfs) if (s[3] == how) k++;
      return k;
    }

    boolean moves(int s, int q) {
      int[] serf = serfs.get(s);
      if (serf[3] > 1 || serf[3] == 0 && serf[2] == q) return false;
      if (serf[3] == 1) serf[4] = 0;
      serf[3] = 0;
      serf[2] = q;
      return true;
    }

    void leaves(int s) {
      int[] serf = serfs.get(s);
      serf[3] = 1;
      serf[4] = 0;
    }
  }

  static final class Model {
    static final Pattern ITEM = Pattern.compile("^([ncgsmw])([0-9]{1,2}(?:,[0-9]{1,2})*);");
    String text = "";
    Town first, now;
    List<Town> past = new ArrayList<>(), kept = new ArrayList<>();
    List<int[]> seen = new ArrayList<>();

    Model() {
      first = new Town();
      read(Due.FIRST, first);
      now = first.copy();
    }

    static int read(String text, Town t) {
      int at = 0;
      boolean other = false;
      while (at < text.length()) {
        Matcher m = ITEM.matcher(text.substring(at));
        if (!m.find()) return at;
        String[] parts = m.group(2).split(",");
        int[] v = new int[parts.length];
        for (int i = 0; i < v.length; i++) v[i] = Integer.parseInt(parts[i]);
        if (!item(m.group(1).charAt(0), v, t, other)) return at;
        other |= "nc".indexOf(m.group(1)) < 0;
        at += m.end();
      }
      return NONE;
    }

    static boolean item(char letter, int[] v, Town t, boolean other) {
      int numbers = "ncg".indexOf(letter) >= 0 ? 1 : letter == 'w' ? 2 : 3;
      if (v.length != numbers) return false;
      if (letter == 'n') {
        t.n = v[0];
        return v[0] >= 2 && v[0] <= 60;
      }
      if (letter == 'c') {
        t.c = v[0];
        return v[0] >= 2 && v[0] <= 6 && !other;
      }
      if (letter == 'g') {
        if (v[0] >= t.c) return false;
        t.guild[v[0]] = true;
        return true;
      }
      if (letter == 's') {
        t.serfs.add(new int[] {v[0], v[1], v[2], 0, 0, 0});
        return v[0] < 4 && v[1] < 3 && v[2] < t.c && t.serfs.size() <= 6;
      }
      if (letter == 'm') {
        t.men.add(v);
        return v[0] < 3 && v[1] < t.c && v[2] < 6 && t.men.size() <= 5;
      }
      t.notches.add(v);
      return v[0] <= v[1] && t.notches.size() <= 6;
    }

    boolean noSerf(int s) { return s < 0 || s >= now.serfs.size(); }

    static boolean out(int x, int a, int b) { return x < a || x > b; }

    void act() {
      past.add(now.copy());
      if (past.size() > 8) past.remove(0);
    }

    int call(String name, int[] a) {
      switch (name) {
        case "write":
          if (out(a[0], 32, 126)) return BAD;
          if (text.length() == 200) return FULL;
          text += (char) a[0];
          return text.length();
        case "wipe": {
          int was = text.length();
          text = "";
          return was;
        }
        case "fault": return read(text, new Town());
        case "lay": {
          Town t = new Town();
          if (read(text, t) != NONE || t.serfs.isEmpty()) return NO;
          first = t;
          now = t.copy();
          past.clear();
          kept.clear();
          seen.clear();
          return t.serfs.size();
        }
        case "serf": {
          if (noSerf(a[0]) || out(a[1], 0, 6)) return BAD;
          int[] s = now.serfs.get(a[0]);
          if (a[1] < 2) return s[a[1]];
          if (a[1] == 2) return s[3] == 0 ? s[2] : NONE;
          if (a[1] < 6) return s[a[1]];
          int met = 0;
          for (int[] m : now.men) if (s[3] == 0 && m[0] == s[1] && m[1] == s[2]) met++;
          return met;
        }
        case "man": return out(a[0], 0, now.men.size() - 1) || out(a[1], 0, 2) ? BAD : now.men.get(a[0])[a[1]];
        case "move": {
          if (noSerf(a[0]) || out(a[1], 0, now.c - 1)) return BAD;
          if (!now.copy().moves(a[0], a[1])) return NO;
          act();
          now.moves(a[0], a[1]);
          return now.serfs.get(a[0])[4];
        }
        case "leave": {
          if (noSerf(a[0])) return BAD;
          if (now.serfs.get(a[0])[3] != 0) return NO;
          act();
          int had = now.serfs.get(a[0])[4];
          now.leaves(a[0]);
          return had;
        }
        case "send": {
          if (out(a[0], 0, now.men.size() - 1) || out(a[1], 0, now.c - 1)) return BAD;
          act();
          int was = now.men.get(a[0])[1];
          now.men.get(a[0])[1] = a[1];
          return was;
        }
        case "pass": {
          if (out(a[0], 1, 60)) return BAD;
          if (now.day + a[0] > 999) return NO;
          act();
          int were = now.so(2);
          now = now.behind(a[0]);
          return now.so(2) - were;
        }
        case "undo":
          if (past.isEmpty()) return NO;
          now = past.remove(past.size() - 1);
          return past.size();
        default: return ask(name, a);
      }
    }

    int ask(String name, int[] a) {
      switch (name) {
        case "behind": {
          if (noSerf(a[0]) || out(a[1], 0, 99) || out(a[2], 0, 2)) return BAD;
          Town t = now.behind(a[1]);
          return a[2] == 2 ? t.so(2) : t.serfs.get(a[0])[3 + a[2]];
        }
        case "ends":
          if (noSerf(a[0])) return BAD;
          for (int d = 0; d <= 99; d++) if (now.behind(d).serfs.get(a[0])[3] > 1) return d;
          return NONE;
        case "live": return live(a[0], a[1]);
        case "way": return way(a[0], a[1]);
        case "hunt": {
          if (out(a[0], 0, 2) || out(a[1], 0, 1)) return BAD;
          int[] best = {0, -1};
          for (int q = now.c - 1; q >= 0; q--) {
            for (int b = 5; b >= 0; b--) {
              Town t = now.copy();
              t.men.add(new int[] {a[0], q, b});
              int taken = t.behind(60).so(2);
              if (taken >= best[1]) best = new int[] {10 * q + b, taken};
            }
          }
          return best[a[1]];
        }
        case "proof": {
          if (out(a[0], 0, 99) || out(a[1], 0, 99) || a[0] > a[1]) return BAD;
          int fewest = NONE;
          for (int set = 0; set < 1 << now.notches.size(); set++) {
            if (gap(a[0], a[1], set) == NONE && (fewest == NONE || Integer.bitCount(set) < fewest)) fewest = Integer.bitCount(set);
          }
          return fewest;
        }
        case "gap": return out(a[0], 0, 99) || out(a[1], 0, 99) || a[0] > a[1] ? BAD : gap(a[0], a[1], -1);
        case "seen":
          if (noSerf(a[0]) || out(a[1], 1, 99) || out(a[2], 0, 3)) return BAD;
          if (seen.size() == 8) return FULL;
          seen.add(a);
          return seen.size();
        case "forget": {
          int were = seen.size();
          seen.clear();
          return were;
        }
        case "lords": {
          if (noSerf(a[0])) return BAD;
          int bits = 7;
          for (int l = 0; l < 3; l++) {
            for (int[] one : seen) {
              Town t = first.copy();
              t.serfs.get(a[0])[1] = l;
              if (one[0] == a[0] && t.behind(one[1]).serfs.get(a[0])[3] != one[2]) bits &= ~(1 << l);
            }
          }
          return bits;
        }
        case "leap": {
          if (out(a[0], 1, 99)) return BAD;
          Town more = now.copy();
          more.n++;
          int bits = 0;
          for (int s = 0; s < now.serfs.size(); s++) {
            if (now.behind(a[0]).serfs.get(s)[3] == 3 && more.behind(a[0]).serfs.get(s)[3] != 3) bits += 1 << s;
          }
          return bits;
        }
        default: return late(name, a);
      }
    }

    int late(String name, int[] a) {
      switch (name) {
        case "sure": {
          if (out(a[0], 0, 8) || out(a[1], 0, 10) || out(a[2], 0, 1) || out(a[3], 0, 1)) return BAD;
          // day by day: ways to be met on none, on one
          BigInteger none = BigInteger.ONE, one = BigInteger.ZERO, all = BigInteger.ONE;
          BigInteger x = BigInteger.valueOf(a[1]), not = BigInteger.valueOf(10 - a[1]);
          for (int d = 0; d < a[0]; d++) {
            one = one.multiply(not).add(none.multiply(x));
            none = none.multiply(not);
            all = all.multiply(BigInteger.TEN);
          }
          BigInteger above = a[2] == 0 ? none : none.add(one);
          BigInteger g = above.gcd(all);
          return (a[3] == 0 ? above : all).divide(g).intValueExact();
        }
        case "year": {
          if (out(a[0], 0, 9999) || out(a[1], 1, 60) || out(a[2], 0, 1)) return BAD;
          Town t = now.copy();
          for (int d = 0; d < a[1]; d++) {
            BigInteger x = BigInteger.valueOf(7919).multiply(BigInteger.valueOf(a[0])).add(BigInteger.valueOf(6151L * d + 1));
            int draw = x.pow(2).mod(BigInteger.valueOf(65521)).intValue() >> 1;
            int s = draw % t.serfs.size();
            if ((draw >> 6) % 3 == 0) t.moves(s, (draw >> 3) % t.c);
            if ((draw >> 6) % 3 == 1 && (draw >> 8) % 4 == 0 && t.serfs.get(s)[3] == 0) t.leaves(s);
            t.pass();
          }
          return t.so(a[2] + 2);
        }
        case "keep":
          if (kept.size() == 2) return FULL;
          kept.add(now.copy());
          return kept.size();
        case "back":
          if (kept.isEmpty()) return NO;
          now = kept.remove(kept.size() - 1);
          past.clear();
          return kept.size();
        default: {
          if (out(a[0], 0, 10)) return BAD;
          return new int[] {now.serfs.size(), now.men.size(), now.c, now.n, now.day, now.so(2), now.so(3), seen.size(), past.size(),
              kept.size(), text.length()}[a[0]];
        }
      }
    }

    int live(int s, int what) {
      if (noSerf(s) || out(what, 0, 1)) return BAD;
      if (now.serfs.get(s)[3] > 1) return NO;
      for (int d = 0; d <= 99; d++) {
        for (int q = 0; q < now.c; q++) {
          Town t = now.copy();
          t.moves(s, q);
          if (t.behind(d).serfs.get(s)[3] == 3) return what == 0 ? q : d;
        }
      }
      return NONE;
    }

    int gap(int f, int t, int set) {
      for (int d = f; d <= t; d++) {
        boolean proved = false;
        for (int i = 0; i < now.notches.size(); i++) {
          proved |= (set >> i & 1) == 1 && now.notches.get(i)[0] <= d && d <= now.notches.get(i)[1];
        }
        if (!proved) return d;
      }
      return NONE;
    }

    int way(int s, int k) {
      if (noSerf(s) || out(k, 1, 60)) return BAD;
      if (now.serfs.get(s)[3] != 0) return NO;
      List<Integer> way = new ArrayList<>();
      if (!walk(now, s, way, new boolean[61][6][2]) || k > way.size()) return NONE;
      return way.get(k - 1);
    }

    /** Depth first, the lowest first; dead is where no way goes on from. */
    static boolean walk(Town t, int s, List<Integer> way, boolean[][][] dead) {
      int[] serf = t.serfs.get(s);
      if (serf[3] == 3) return true;
      if (serf[3] != 0 || dead[serf[4]][serf[2]][serf[5]]) return false;
      for (int q = 0; q < t.c; q++) {
        int apart = Math.abs(q - serf[2]);
        if (apart > 1 && apart != t.c - 1) continue;
        Town next = t.copy();
        next.moves(s, q);
        next.pass();
        way.add(q);
        if (walk(next, s, way, dead)) return true;
        way.remove(way.size() - 1);
      }
      dead[serf[4]][serf[2]][serf[5]] = true;
      return false;
    }
  }

  static final String[] NAMES = {"write", "wipe", "fault", "lay", "serf", "man", "move", "leave", "send", "pass", "undo", "behind", "ends", "live",
      "way", "hunt", "proof", "gap", "seen", "forget", "lords", "leap", "sure", "year", "keep", "back", "count"};

  static int real(TownAir x, String name, int[] a) {
    switch (name) {
      case "write": return x.write(a[0]);
      case "wipe": return x.wipe();
      case "fault": return x.fault();
      case "lay": return x.lay();
      case "serf": return x.serf(a[0], a[1]);
      case "man": return x.man(a[0], a[1]);
      case "move": return x.move(a[0], a[1]);
      case "leave": return x.leave(a[0]);
      case "send": return x.send(a[0], a[1]);
      case "pass": return x.pass(a[0]);
      case "undo": return x.undo();
      case "behind": return x.behind(a[0], a[1], a[2]);
      case "ends": return x.ends(a[0]);
      case "live": return x.live(a[0], a[1]);
      case "way": return x.way(a[0], a[1]);
      case "hunt": return x.hunt(a[0], a[1]);
      case "proof": return x.proof(a[0], a[1]);
      case "gap": return x.gap(a[0], a[1]);
      case "seen": return x.seen(a[0], a[1], a[2]);
      case "forget": return x.forget();
      case "lords": return x.lords(a[0]);
      case "leap": return x.leap(a[0]);
      case "sure": return x.sure(a[0], a[1], a[2], a[3]);
      case "year": return x.year(a[0], a[1], a[2]);
      case "keep": return x.keep();
      case "back": return x.back();
      default: return x.count(a[0]);
    }
  }

  /** The least and the most of each number of a call, as the document tells them. */
  static int[] spans(String name) {
    switch (name) {
      case "write": return new int[] {32, 126};
      case "serf": return new int[] {0, 5, 0, 6};
      case "man": return new int[] {0, 4, 0, 2};
      case "move": return new int[] {0, 5, 0, 5};
      case "leave": case "ends": case "lords": return new int[] {0, 5};
      case "send": return new int[] {0, 4, 0, 5};
      case "pass": return new int[] {1, 9};
      case "behind": return new int[] {0, 5, 0, 99, 0, 2};
      case "live": return new int[] {0, 5, 0, 1};
      case "way": return new int[] {0, 5, 1, 20};
      case "hunt": return new int[] {0, 2, 0, 1};
      case "proof": case "gap": return new int[] {0, 99, 0, 99};
      case "seen": return new int[] {0, 5, 1, 30, 0, 3};
      case "leap": return new int[] {1, 40};
      case "sure": return new int[] {0, 8, 0, 10, 0, 1, 0, 1};
      case "year": return new int[] {0, 9999, 1, 60, 0, 1};
      case "count": return new int[] {0, 10};
      default: return new int[] {};
    }
  }

  static int[] numbers(Random r, String name) {
    int[] spans = spans(name);
    int[] a = new int[spans.length / 2];
    for (int i = 0; i < a.length; i++) {
      int low = spans[2 * i], high = spans[2 * i + 1];
      a[i] = low + r.nextInt(high - low + 1);
      if (r.nextInt(40) == 0) a[i] = r.nextBoolean() ? low - 1 : high + 1;
      if (r.nextInt(200) == 0) a[i] = r.nextInt();
    }
    return a;
  }

  static String text(Random r) {
    StringBuilder b = new StringBuilder();
    int c = 4;
    if (r.nextInt(6) > 0) b.append("n").append(2 + r.nextInt(r.nextInt(4) == 0 ? 59 : 12)).append(";");
    if (r.nextInt(6) > 0) b.append("c").append(c = 2 + r.nextInt(5)).append(";");
    int items = 1 + r.nextInt(20);
    for (int i = 0; i < items; i++) {
      int q = r.nextInt(c);
      switch (r.nextInt(6)) {
        case 0: b.append("g").append(q).append(";"); break;
        case 1: case 2: b.append("s").append(r.nextInt(4)).append(",").append(r.nextInt(3)).append(",").append(q).append(";"); break;
        case 3: case 4: b.append("m").append(r.nextInt(3)).append(",").append(q).append(",").append(r.nextInt(6)).append(";"); break;
        default: {
          int f = r.nextInt(60);
          b.append("w").append(f).append(",").append(f + r.nextInt(40)).append(";");
        }
      }
    }
    if (r.nextInt(6) == 0) b.setCharAt(r.nextInt(b.length()), "ncgsmw0123456789,; x".charAt(r.nextInt(20)));
    if (r.nextInt(8) == 0) b.deleteCharAt(r.nextInt(b.length()));
    return b.toString();
  }

  static void run(int seed) {
    Random r = new Random(seed);
    TownAir x = new TownAir();
    Model model = new Model();
    StringBuilder told = new StringBuilder();
    int calls = 0;
    while (calls < 512) {
      boolean writes = r.nextInt(60) == 0 || calls == 0 && r.nextInt(4) > 0;
      String next = writes ? text(r) : "";
      List<String> names = new ArrayList<>();
      List<int[]> rows = new ArrayList<>();
      if (writes) {
        names.add("wipe");
        rows.add(new int[0]);
        for (char letter : next.toCharArray()) {
          names.add("write");
          rows.add(new int[] {letter});
        }
        for (String name : new String[] {"fault", "lay"}) {
          names.add(name);
          rows.add(new int[0]);
        }
      } else {
        String name = NAMES[r.nextInt(NAMES.length)];
        // what resets all is asked for less often
        if (name.equals("lay") && r.nextInt(8) > 0) name = "move";
        names.add(name);
        rows.add(numbers(r, name));
      }
      for (int i = 0; i < names.size() && calls < 512; i++, calls++) {
        String call = names.get(i) + java.util.Arrays.toString(rows.get(i));
        int want = model.call(names.get(i), rows.get(i).clone());
        int got = real(x, names.get(i), rows.get(i));
        told.append(call).append(" ");
        if (got != want) System.out.println("seed " + seed + ": " + told);
        Due.is("seed " + seed + ", call " + calls + ": " + call, got, want);
        if (got != want) return;
      }
    }
  }

  public static void main(String[] args) {
    for (int seed = 1; seed <= 300 && Due.wrongSoFar() < 3; seed++) run(seed);
    Due.end();
  }
}
