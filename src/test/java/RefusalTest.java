import java.util.ArrayList;
import java.util.List;

/**
 * For each refused call its answer, and that nothing has changed by it: the call is made on one of two towns that
 * have come the same way, and then all that can be asked of both is laid side by side, to the last that can be UNDONE
 * and the last that is KEPT.
 */
public final class RefusalTest {
  static final int BAD = TownAir.BAD, NO = TownAir.NO, FULL = TownAir.FULL, NONE = TownAir.NONE;
  static final int MIN = Integer.MIN_VALUE, MAX = Integer.MAX_VALUE;

  interface Call {
    int on(TownAir t);
  }

  /** How one comes to a town; the numbers that it has. */
  enum Way {
    FIRST(5, 2, 4), FULL_PILES(4, 2, 4), FULL_TEXT(1, 0, 4), LAST_DAY(2, 1, 2), NO_MEN(1, 0, 6);

    final int serfs, men, quarters;

    Way(int serfs, int men, int quarters) {
      this.serfs = serfs;
      this.men = men;
      this.quarters = quarters;
    }
  }

  public static void main(String[] args) {
    for (Way way : Way.values()) {
      wrongNumbersOfTowns(way);
      wrongNumbersOfActs(way);
      wrongNumbersOfWhatComes(way);
      wrongNumbersOfWhatWasSeen(way);
      wrongNumbersOfChances(way);
    }
    write();
    lay();
    moveLeaveSend();
    passUndo();
    whatComes();
    seenKeepBack();
    ofSeveralTheFirst();
    Due.end();
  }

  // ---- towns to refuse something in

  static TownAir come(Way way) {
    switch (way) {
      case FULL_PILES:
        return fullPiles();
      case FULL_TEXT:
        return fullText();
      case LAST_DAY:
        return lastDay();
      case NO_MEN:
        return noMen();
      default:
        return new TownAir();
    }
  }

  /** Serf 0 is TAKEN, 1 FREE, 2 OUTSIDE, 3 INSIDE; 8 can be UNDONE, 2 are KEPT, 8 SEEN. */
  static TownAir fullPiles() {
    TownAir t = new TownAir();
    Due.write(t, "n3;c4;g1;s0,0,0;s1,0,1;s2,1,3;s3,0,2;m0,0,0;m1,1,1;w2,5;w9,9;");
    t.lay();
    t.leave(3);
    t.pass(1);
    t.keep();
    t.send(1, 2);
    t.leave(2);
    t.pass(1);
    t.move(3, 3);
    t.keep();
    t.pass(1);
    t.send(0, 1);
    t.move(3, 2);
    t.send(1, 3);
    for (int i = 0; i < 8; i++) t.seen(i % 4, 1 + i, i < 4 ? 0 : 3);
    t.write('x');
    int[] how = {2, 3, 1, 0};
    for (int s = 0; s < 4; s++) Due.is("how serf " + s + " is", t.serf(s, 3), how[s]);
    int[] piles = {8, 8, 2};
    for (int i = 0; i < 3; i++) Due.is("pile " + i, t.count(7 + i), piles[i]);
    return t;
  }

  static TownAir fullText() {
    TownAir t = new TownAir();
    Due.write(t, "n9;s0,0,0;w0,4;");
    t.lay();
    Due.write(t, "g1;".repeat(61) + "n5");
    return t;
  }

  static TownAir lastDay() {
    TownAir t = new TownAir();
    Due.write(t, "n60;c2;s0,1,0;s3,0,1;m1,1,0;");
    t.lay();
    t.leave(1);
    for (int i = 0; i < 16; i++) t.pass(60);
    t.pass(39);
    t.move(1, 0);
    Due.is("the last DAY", t.count(4), 999);
    return t;
  }

  static TownAir noMen() {
    TownAir t = new TownAir();
    Due.write(t, "c6;s2,2,5;");
    t.lay();
    return t;
  }

  // ---- all that can be asked

  static List<Integer> all(TownAir t) {
    List<Integer> answers = new ArrayList<>();
    for (int i = 0; i <= 10; i++) answers.add(t.count(i));
    int serfs = t.count(0), men = t.count(1);
    for (int s = 0; s < serfs; s++) {
      for (int w : new int[] {0, 1, 6}) answers.add(t.serf(s, w));
      answers.add(t.ends(s));
      answers.add(t.lords(s));
    }
    for (int m = 0; m < men; m++) for (int w : new int[] {0, 2}) answers.add(t.man(m, w));
    for (int f : new int[] {0, 3, 5, 6, 10}) answers.add(t.gap(f, 99));
    addStanding(answers, t, serfs, men);
    answers.add(t.fault());
    for (int i = 0; i < 9; i++) {
      answers.add(t.undo());
      addStanding(answers, t, serfs, men);
    }
    for (int i = 0; i < 3; i++) {
      answers.add(t.back());
      addStanding(answers, t, serfs, men);
    }
    answers.add(t.forget());
    answers.add(t.write(';'));
    answers.add(t.fault());
    answers.add(t.lay());
    answers.add(t.count(3));
    answers.add(t.wipe());
    return answers;
  }

  static void addStanding(List<Integer> answers, TownAir t, int serfs, int men) {
    answers.add(t.count(4));
    for (int s = 0; s < serfs; s++) for (int w = 2; w <= 5; w++) answers.add(t.serf(s, w));
    for (int m = 0; m < men; m++) answers.add(t.man(m, 1));
  }

  static void refused(String name, Way way, int due, Call call) {
    TownAir asked = come(way);
    TownAir left = come(way);
    String where = name + " in " + way;
    Due.is(where, call.on(asked), due);
    Due.is(where + ": nothing has changed", all(asked).equals(all(left)) ? 1 : 0, 1);
  }

  /** A number from least to most is told; nearest and farthest beyond are BAD. */
  interface OneNumber {
    int on(TownAir t, int number);
  }

  static void bounds(String name, Way way, int least, int most, OneNumber call) {
    for (int number : new int[] {MIN, MIN + 1, least - 1, most + 1, MAX - 1, MAX}) {
      refused(name + " " + number, way, BAD, t -> call.on(t, number));
    }
    if (least > most) return;
    Due.is(name + " " + least + " is told in " + way, call.on(come(way), least) == BAD ? 1 : 0, 0);
    Due.is(name + " " + most + " is told in " + way, call.on(come(way), most) == BAD ? 1 : 0, 0);
  }

  // ---- BAD, number by number

  static void wrongNumbersOfTowns(Way w) {
    bounds("write", w, 32, 126, (t, n) -> t.write(n));
    bounds("serf", w, 0, w.serfs - 1, (t, n) -> t.serf(n, 0));
    bounds("serf what", w, 0, 6, (t, n) -> t.serf(0, n));
    bounds("man", w, 0, w.men - 1, (t, n) -> t.man(n, 0));
    if (w.men > 0) bounds("man what", w, 0, 2, (t, n) -> t.man(0, n));
    bounds("count", w, 0, 10, (t, n) -> t.count(n));
  }

  static void wrongNumbersOfActs(Way w) {
    bounds("move serf", w, 0, w.serfs - 1, (t, n) -> t.move(n, 0));
    bounds("move to", w, 0, w.quarters - 1, (t, n) -> t.move(w.serfs - 1, n));
    bounds("leave", w, 0, w.serfs - 1, (t, n) -> t.leave(n));
    bounds("send man", w, 0, w.men - 1, (t, n) -> t.send(n, 0));
    if (w.men > 0) bounds("send to", w, 0, w.quarters - 1, (t, n) -> t.send(0, n));
    bounds("pass", w, 1, 60, (t, n) -> t.pass(n));
  }

  static void wrongNumbersOfWhatComes(Way w) {
    bounds("behind serf", w, 0, w.serfs - 1, (t, n) -> t.behind(n, 0, 0));
    bounds("behind days", w, 0, 99, (t, n) -> t.behind(0, n, 0));
    bounds("behind what", w, 0, 2, (t, n) -> t.behind(0, 0, n));
    bounds("ends", w, 0, w.serfs - 1, (t, n) -> t.ends(n));
    bounds("live serf", w, 0, w.serfs - 1, (t, n) -> t.live(n, 0));
    bounds("live what", w, 0, 1, (t, n) -> t.live(w.serfs - 1, n));
    bounds("way serf", w, 0, w.serfs - 1, (t, n) -> t.way(n, 1));
    bounds("way k", w, 1, 60, (t, n) -> t.way(w.serfs - 1, n));
    bounds("hunt lord", w, 0, 2, (t, n) -> t.hunt(n, 0));
    bounds("hunt what", w, 0, 1, (t, n) -> t.hunt(0, n));
    bounds("proof from", w, 0, 99, (t, n) -> t.proof(n, 99));
    bounds("proof to", w, 0, 99, (t, n) -> t.proof(0, n));
    bounds("gap from", w, 0, 99, (t, n) -> t.gap(n, 99));
    bounds("gap to", w, 0, 99, (t, n) -> t.gap(0, n));
    for (int[] days : new int[][] {{1, 0}, {99, 98}, {99, 0}, {51, 50}, {3, 2}}) {
      refused("proof from above to", w, BAD, t -> t.proof(days[0], days[1]));
      refused("gap from above to", w, BAD, t -> t.gap(days[0], days[1]));
    }
    // both of them out of 0 to 99, the first no more than the other
    for (int[] days : new int[][] {{-1, -1}, {100, 100}, {-1, 100}, {MIN, MAX}}) {
      refused("proof beyond", w, BAD, t -> t.proof(days[0], days[1]));
      refused("gap beyond", w, BAD, t -> t.gap(days[0], days[1]));
    }
  }

  static void wrongNumbersOfWhatWasSeen(Way w) {
    bounds("seen serf", w, 0, w.serfs - 1, (t, n) -> t.seen(n, 1, 0));
    bounds("seen days", w, 1, 99, (t, n) -> t.seen(0, n, 0));
    bounds("seen how", w, 0, 3, (t, n) -> t.seen(0, 1, n));
    bounds("lords", w, 0, w.serfs - 1, (t, n) -> t.lords(n));
    bounds("leap", w, 1, 99, (t, n) -> t.leap(n));
  }

  static void wrongNumbersOfChances(Way w) {
    bounds("sure days", w, 0, 8, (t, n) -> t.sure(n, 1, 0, 0));
    bounds("sure of ten", w, 0, 10, (t, n) -> t.sure(1, n, 0, 0));
    bounds("sure twice", w, 0, 1, (t, n) -> t.sure(1, 1, n, 0));
    bounds("sure part", w, 0, 1, (t, n) -> t.sure(1, 1, 0, n));
    bounds("year by", w, 0, 9999, (t, n) -> t.year(n, 1, 0));
    bounds("year of", w, 1, 60, (t, n) -> t.year(0, n, 0));
    bounds("year what", w, 0, 1, (t, n) -> t.year(0, 1, n));
  }

  // ---- NO, NONE, FULL, promise by promise

  // 2: "FULL"
  static void write() {
    for (int letter : new int[] {32, ';', 'n', 126}) refused("write " + letter, Way.FULL_TEXT, FULL, t -> t.write(letter));
    Due.is("200 letters", come(Way.FULL_TEXT).count(10), 200);
  }

  // 5: "NO"
  static void lay() {
    refused("lay without a SERF", Way.FIRST, NO, t -> t.lay());
    refused("lay with a FAULT", Way.FULL_PILES, NO, t -> t.lay());
    refused("lay with a FAULT", Way.FULL_TEXT, NO, t -> t.lay());
    // a TEXT that tells another town, up to its FAULT, changes nothing of what is LAID
    String[] others = {"n60;c2;g0;m2,1,5;w0,99;", "n60;c2;g0;s3,2,1;m2,1,5;w0,99;c2;", "s0,0,0;".repeat(7)};
    for (String other : others) {
      TownAir asked = fullPiles(), left = fullPiles();
      for (TownAir t : new TownAir[] {asked, left}) {
        t.wipe();
        Due.write(t, other);
      }
      Due.is("lay of " + other, asked.lay(), NO);
      Due.is("lay of " + other + ": nothing has changed", all(asked).equals(all(left)) ? 1 : 0, 1);
    }
  }

  // 8: "NO: TAKEN, FREE, he lives there"; 9: "NO: not INSIDE"
  static void moveLeaveSend() {
    for (int q = 0; q < 4; q++) {
      int to = q;
      refused("move one TAKEN to " + to, Way.FULL_PILES, NO, t -> t.move(0, to));
      refused("move one FREE to " + to, Way.FULL_PILES, NO, t -> t.move(1, to));
      Due.is("move one OUTSIDE to " + to, come(Way.FULL_PILES).move(2, to), 0);
      if (to != 2) Due.is("move one INSIDE to " + to, come(Way.FULL_PILES).move(3, to), 1);
    }
    refused("move where he lives", Way.FULL_PILES, NO, t -> t.move(3, 2));
    int[] homes = {1, 2, 3, 0, 0};
    for (int s = 0; s < 5; s++) {
      int who = s;
      refused("move where he lives", Way.FIRST, NO, t -> t.move(who, homes[who]));
    }
    refused("leave, TAKEN", Way.FULL_PILES, NO, t -> t.leave(0));
    refused("leave, FREE", Way.FULL_PILES, NO, t -> t.leave(1));
    refused("leave, OUTSIDE", Way.FULL_PILES, NO, t -> t.leave(2));
    Due.is("leave, INSIDE", come(Way.FULL_PILES).leave(3), 1);
    refused("send, no MEN", Way.NO_MEN, BAD, t -> t.send(0, 0));
    refused("send, no MEN", Way.FULL_TEXT, BAD, t -> t.send(0, 3));
  }

  // 11: "NO: more than 999 in all"; 12: "NO"
  static void passUndo() {
    for (int n : new int[] {1, 2, 60}) refused("pass beyond 999", Way.LAST_DAY, NO, t -> t.pass(n));
    for (Way way : new Way[] {Way.FIRST, Way.FULL_TEXT, Way.NO_MEN}) refused("undo nothing", way, NO, t -> t.undo());
    TownAir t = lastDay();
    for (int i = 7; i >= 0; i--) Due.is("undo to " + i, t.undo(), i);
    int days = t.count(4);
    Due.is("undo no more", t.undo(), NO);
    Due.is("DAYS as before", t.count(4), days);
    TownAir u = fullPiles();
    u.back();
    Due.is("undo behind back", u.undo(), NO);
    u.send(0, 0);
    Due.is("undo one behind back", u.undo(), 0);
    Due.is("undo none behind back", u.undo(), NO);
  }

  // 14 to 16, 18, 19: "NONE", "NO"
  static void whatComes() {
    refused("ends, OUTSIDE", Way.FULL_PILES, NONE, t -> t.ends(2));
    for (int s = 0; s < 2; s++) {
      for (int what = 0; what < 2; what++) {
        int who = s, w = what;
        refused("live, TAKEN or FREE", Way.FULL_PILES, NO, t -> t.live(who, w));
      }
    }
    for (int s = 0; s < 3; s++) {
      for (int k : new int[] {1, 3, 4, 60}) {
        int who = s;
        refused("way, not INSIDE", Way.FULL_PILES, NO, t -> t.way(who, k));
      }
    }
    for (int w = 0; w < 2; w++) {
      int what = w;
      refused("live, nowhere", Way.FIRST, NONE, t -> t.live(0, what));
    }
    for (int k : new int[] {1, 9, 10, 60}) refused("way, none", Way.FIRST, NONE, t -> t.way(2, k));
    for (int k : new int[] {10, 60}) refused("way, not so many", Way.FIRST, NONE, t -> t.way(0, k));
    refused("way, not so many", Way.FULL_PILES, NONE, t -> t.way(3, 3));
    for (int[] days : new int[][] {{0, 10}, {10, 10}, {9, 99}, {0, 99}}) refused("proof, none", Way.FIRST, NONE, t -> t.proof(days[0], days[1]));
    for (int[] days : new int[][] {{0, 0}, {99, 99}}) refused("proof without NOTCHES", Way.NO_MEN, NONE, t -> t.proof(days[0], days[1]));
    for (int[] days : new int[][] {{0, 9}, {0, 0}, {9, 9}}) refused("gap, none", Way.FIRST, NONE, t -> t.gap(days[0], days[1]));
    for (Way way : new Way[] {Way.FIRST, Way.NO_MEN}) refused("fault, none", way, NONE, t -> t.fault());
  }

  // 20: "FULL"; 26: "FULL"; 27: "NO"
  static void seenKeepBack() {
    for (int s = 0; s < 4; s++) {
      int who = s;
      refused("seen a ninth", Way.FULL_PILES, FULL, t -> t.seen(who, 99, 1));
      // what is SEEN already is SEEN once more: still a ninth
      refused("seen a ninth, again", Way.FULL_PILES, FULL, t -> t.seen(who, 1 + who, 0));
    }
    refused("keep a third", Way.FULL_PILES, FULL, t -> t.keep());
    for (Way way : new Way[] {Way.FIRST, Way.FULL_TEXT, Way.LAST_DAY, Way.NO_MEN}) refused("back to nothing", way, NO, t -> t.back());
  }

  // "Of several the first; nothing changes then."
  static void ofSeveralTheFirst() {
    for (int letter : new int[] {31, 127}) refused("BAD ahead of FULL", Way.FULL_TEXT, BAD, t -> t.write(letter));
    for (int s = 0; s < 2; s++) {
      int who = s;
      for (int q : new int[] {-1, 4}) refused("move: BAD ahead of NO", Way.FULL_PILES, BAD, t -> t.move(who, q));
      for (int w : new int[] {-1, 2}) refused("live: BAD ahead of NO", Way.FULL_PILES, BAD, t -> t.live(who, w));
      for (int k : new int[] {0, 61}) refused("way: BAD ahead of NO", Way.FULL_PILES, BAD, t -> t.way(who, k));
    }
    for (int k : new int[] {0, 61}) {
      refused("way, OUTSIDE: BAD ahead of NO", Way.FULL_PILES, BAD, t -> t.way(2, k));
      refused("way: BAD ahead of NONE", Way.FIRST, BAD, t -> t.way(2, k));
      refused("way: BAD ahead of not so many", Way.FIRST, BAD, t -> t.way(0, k));
    }
    refused("live: BAD ahead of NONE", Way.FIRST, BAD, t -> t.live(0, 2));
    refused("proof: BAD ahead of NONE", Way.NO_MEN, BAD, t -> t.proof(1, 0));
    refused("gap: BAD ahead of a DAY", Way.NO_MEN, BAD, t -> t.gap(1, 0));
    for (int n : new int[] {0, 61}) refused("pass: BAD ahead of NO", Way.LAST_DAY, BAD, t -> t.pass(n));
    refused("seen: BAD ahead of FULL", Way.FULL_PILES, BAD, t -> t.seen(4, 1, 0));
    refused("seen: BAD ahead of FULL", Way.FULL_PILES, BAD, t -> t.seen(0, 0, 0));
    refused("seen: BAD ahead of FULL", Way.FULL_PILES, BAD, t -> t.seen(0, 1, 4));
    // two numbers that are none, or all of them
    refused("serf: both", Way.FIRST, BAD, t -> t.serf(5, 7));
    refused("man: both", Way.FIRST, BAD, t -> t.man(2, 3));
    refused("move: both", Way.FIRST, BAD, t -> t.move(-1, -1));
    refused("send: both", Way.FIRST, BAD, t -> t.send(2, 4));
    refused("behind: all", Way.FIRST, BAD, t -> t.behind(-1, -1, -1));
    refused("live: both", Way.FIRST, BAD, t -> t.live(5, 2));
    refused("way: both", Way.FIRST, BAD, t -> t.way(5, 0));
    refused("hunt: both", Way.FIRST, BAD, t -> t.hunt(3, 2));
    refused("seen: all", Way.FIRST, BAD, t -> t.seen(5, 0, 4));
    refused("sure: all", Way.FIRST, BAD, t -> t.sure(9, 11, 2, 2));
    refused("year: all", Way.FIRST, BAD, t -> t.year(10000, 0, 2));
  }
}
