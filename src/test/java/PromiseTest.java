/** Promise by promise: ordinary inputs, the edges that the document names, wrong inputs. */
public final class PromiseTest {
  static final int BAD = TownAir.BAD, NO = TownAir.NO, FULL = TownAir.FULL, NONE = TownAir.NONE;
  static final int[] FAR = {Integer.MIN_VALUE, -1, Integer.MAX_VALUE};

  public static void main(String[] args) {
    newObject();
    write();
    wipe();
    fault();
    faultOfMany();
    lay();
    serf();
    man();
    kindsOnADay();
    move();
    leave();
    send();
    pass();
    undo();
    behind();
    ends();
    live();
    way();
    wayOfRenamed();
    hunt();
    proof();
    gap();
    seen();
    forget();
    lords();
    leap();
    sure();
    year();
    keep();
    back();
    count();
    nothingChangesByAsking();
    Due.end();
  }

  // 1
  static void newObject() {
    TownAir t = new TownAir();
    int[] counts = {5, 2, 4, 9, 0, 0, 0, 0, 0, 0, 0};
    for (int i = 0; i < counts.length; i++) Due.is("new count " + i, t.count(i), counts[i]);
    int[][] serfs = {{0, 0, 1}, {1, 0, 2}, {2, 1, 3}, {3, 1, 0}, {0, 2, 0}};
    for (int s = 0; s < 5; s++) for (int w = 0; w < 3; w++) Due.is("new serf " + s + " " + w, t.serf(s, w), serfs[s][w]);
    int[][] men = {{0, 0, 1}, {1, 1, 2}};
    for (int m = 0; m < 2; m++) for (int w = 0; w < 3; w++) Due.is("new man " + m + " " + w, t.man(m, w), men[m][w]);
    Due.is("new fault", t.fault(), NONE);
    Due.is("new lay", t.lay(), NO);
    Due.is("new lay leaves serfs", t.count(0), 5);
    // told by its own text the same town stands
    TownAir u = Due.laid(Due.FIRST);
    for (int s = 0; s < 5; s++) Due.is("told ends " + s, u.ends(s), t.ends(s));
    Due.is("told proof", u.proof(0, 9), t.proof(0, 9));
    // the guild in quarter 2 keeps the craftsman
    Due.is("guild of the first town", t.behind(1, 9, 0), 3);
    Due.is("BAD", BAD, -1);
    Due.is("NO", NO, -2);
    Due.is("FULL", FULL, -3);
    Due.is("NONE", NONE, -4);
  }

  // 2
  static void write() {
    TownAir t = new TownAir();
    Due.is("write 31", t.write(31), BAD);
    Due.is("write 127", t.write(127), BAD);
    for (int n : FAR) Due.is("write " + n, t.write(n), BAD);
    Due.is("write 32", t.write(32), 1);
    Due.is("write 126", t.write(126), 2);
    for (int i = 3; i <= 200; i++) Due.is("write letter " + i, t.write('n'), i);
    Due.is("write the 201st", t.write('n'), FULL);
    Due.is("write a bad 201st", t.write(31), BAD);
    Due.is("letters", t.count(10), 200);
    Due.is("fault of a full text", t.fault(), 0);
  }

  // 3
  static void wipe() {
    TownAir t = new TownAir();
    Due.is("wipe nothing", t.wipe(), 0);
    Due.write(t, "n5;x");
    Due.is("fault ahead of wipe", t.fault(), 3);
    Due.is("wipe", t.wipe(), 4);
    Due.is("wiped letters", t.count(10), 0);
    Due.is("wiped fault", t.fault(), NONE);
    Due.is("wipe again", t.wipe(), 0);
    Due.is("write behind wipe", t.write('n'), 1);
    Due.is("wipe leaves what is LAID", t.count(0), 5);
  }

  // 4
  static void fault() {
    String[] good = {"", "n2;", "n60;", "n05;", "c2;", "c6;", "c06;", "n3;c3;n4;c4;g3;", "g3;g3;", "c2;g1;", "s0,0,0;", "s3,2,3;",
        "s00,02,03;", "m2,3,5;", "w0,0;", "w0,99;", "w99,99;", "w07,7;", "c6;s0,0,5;m0,5,0;g5;", "s0,0,0;n9;", "g0;n5;",
        "s0,0,0;g1;m0,0,0;w1,2;n3;g0;"};
    for (String text : good) faultIs(text, NONE);
    String[] bad = {" ", "x", "n", ";", "n;", "n1;", "n61;", "n0;", "n5", "n5,", "n5,6;", "n,5;", "n005;", "n60", "n6 ;", "n-5;", "N5;",
        "c1;", "c7;", "c0;", "c4,4;", "c;", "c44;", "g4;", "g;", "g0,0;", "g04", "s4,0,0;", "s0,3,0;", "s0,0,4;", "s0,0;", "s0,0,0,0;",
        "s0,0,0", "s0,0,0,", "s,0,0;", "s0,,0;", "s0;0;0;", "m3,0,0;", "m0,4,0;", "m0,0,6;", "m0,0;", "m0,0,0,0;", "m0,0,10;", "w5,4;",
        "w0;", "w0,100;", "w100,0;", "w0,0,0;", "w0,0", "w 0,0;", "d5;", "n5.", "5;", ",", "nn5;", "n5:", "n:;", "w/,5;", "s0,0,/;", "m0,:,0;"};
    for (String text : bad) {
      faultIs(text, 0);
      faultIs("n7;" + text, 3);
      faultIs("n7;" + text + "n1;", 3);
    }
    String[] ahead = {"g0;", "s0,0,0;", "m0,0,0;", "w0,0;"};
    for (String text : ahead) faultIs("c5;" + text + "n3;c5;", 6 + text.length());
    faultIs("c2;g2;", 3);
    faultIs("c2;s0,0,2;", 3);
    faultIs("c2;m0,2,0;", 3);
    faultIs("c3;c2;g2;", 6);
    faultIs("n5; c2;", 3);
    faultIs("n5;c2;g", 6);
  }

  static void faultIs(String text, int want) {
    TownAir t = new TownAir();
    Due.write(t, text);
    Due.is("fault of \"" + text + "\"", t.fault(), want);
    if (want != NONE) Due.is("lay of \"" + text + "\"", t.lay(), NO);
  }

  static void faultOfMany() {
    String six = "s0,0,0;".repeat(6);
    faultIs(six, NONE);
    faultIs(six + "s0,0,0;", 42);
    String five = "m0,0,0;".repeat(5);
    faultIs(five, NONE);
    faultIs(five + "m0,0,0;", 35);
    String notches = "w0,1;".repeat(6);
    faultIs(notches, NONE);
    faultIs(notches + "w0,1;", 30);
    faultIs("n5;".repeat(66), NONE);
    faultIs("g1;".repeat(66) + "g1", 198);
  }

  // 5
  static void lay() {
    TownAir t = new TownAir();
    t.pass(3);
    t.seen(0, 1, 0);
    t.keep();
    Due.write(t, "n5;c3;g0;");
    Due.is("lay without a serf", t.lay(), NO);
    int[] still = {5, 2, 4, 9, 3, 2, 0, 1, 1, 1, 9};
    for (int i = 0; i < still.length; i++) Due.is("not laid count " + i, t.count(i), still[i]);
    Due.write(t, "s1,0,2;s0,1,1;m1,0,4;");
    Due.is("lay", t.lay(), 2);
    int[] anew = {2, 1, 3, 5, 0, 0, 0, 0, 0, 0, 30};
    for (int i = 0; i < anew.length; i++) Due.is("laid count " + i, t.count(i), anew[i]);
    Due.is("laid undo", t.undo(), NO);
    Due.is("laid back", t.back(), NO);
    for (int s = 0; s < 2; s++) for (int w = 3; w < 6; w++) Due.is("laid serf " + s + " " + w, t.serf(s, w), 0);
    Due.is("no notch is left", t.proof(0, 0), NONE);
    t.pass(2);
    Due.is("lay once more", t.lay(), 2);
    Due.is("days anew", t.count(4), 0);
    Due.is("men anew", t.man(0, 1), 0);
    TownAir u = Due.laid("s0,0,0;");
    Due.is("20 days without n", u.count(3), 20);
    Due.is("4 quarters without c", u.count(2), 4);
    Due.is("no men", u.count(1), 0);
    TownAir v = Due.laid("n4;c2;n6;c5;s0,0,4;n7;");
    Due.is("the last n", v.count(3), 7);
    Due.is("the last c", v.count(2), 5);
  }

  // 6
  static void serf() {
    TownAir t = Due.laid("n9;c4;s3,1,2;s0,1,2;s2,2,0;m1,2,0;m1,2,2;m0,2,0;m2,1,0;");
    int[] told = {3, 1, 2, 0, 0, 0, 2};
    for (int w = 0; w < 7; w++) Due.is("serf 0 " + w, t.serf(0, w), told[w]);
    Due.is("a mother's as plain", t.serf(2, 6), 0);
    Due.is("pass", t.pass(1), 2);
    int[] met = {3, 1, 2, 0, 1, 1, 1};
    for (int w = 0; w < 7; w++) Due.is("serf 0 met " + w, t.serf(0, w), met[w]);
    int[] taken = {0, 1, NONE, 2, 0, 0, 0};
    for (int w = 0; w < 7; w++) Due.is("serf 1 taken " + w, t.serf(1, w), taken[w]);
    t.pass(1);
    int[] twice = {3, 1, NONE, 2, 1, 2, 0};
    for (int w = 0; w < 7; w++) Due.is("serf 0 taken " + w, t.serf(0, w), twice[w]);
    for (int n : new int[] {Integer.MIN_VALUE, -1, 3, Integer.MAX_VALUE}) Due.is("serf " + n, t.serf(n, 0), BAD);
    for (int n : new int[] {Integer.MIN_VALUE, -1, 7, Integer.MAX_VALUE}) Due.is("serf what " + n, t.serf(0, n), BAD);
    TownAir u = Due.laid("n2;s0,0,3;m0,3,0;m1,0,0;");
    u.leave(0);
    int[] out = {0, 0, NONE, 1, 0, 0, 0};
    for (int w = 0; w < 7; w++) Due.is("serf outside " + w, u.serf(0, w), out[w]);
    u.move(0, 1);
    u.pass(2);
    int[] free = {0, 0, NONE, 3, 2, 0, 0};
    for (int w = 0; w < 7; w++) Due.is("serf free " + w, u.serf(0, w), free[w]);
  }

  // 7
  static void man() {
    TownAir t = Due.laid("n9;c6;s0,0,2;m1,4,5;m2,0,3;");
    int[][] men = {{1, 4, 5}, {2, 0, 3}};
    for (int m = 0; m < 2; m++) for (int w = 0; w < 3; w++) Due.is("man " + m + " " + w, t.man(m, w), men[m][w]);
    t.pass(1);
    Due.is("man 0 goes on", t.man(0, 1), 3);
    Due.is("man 1 goes on", t.man(1, 1), 3);
    t.pass(1);
    Due.is("man 0 goes on again", t.man(0, 1), 2);
    Due.is("man 1 goes on again", t.man(1, 1), 0);
    for (int n : new int[] {Integer.MIN_VALUE, -1, 2, Integer.MAX_VALUE}) Due.is("man " + n, t.man(n, 0), BAD);
    for (int n : new int[] {Integer.MIN_VALUE, -1, 3, Integer.MAX_VALUE}) Due.is("man what " + n, t.man(0, n), BAD);
    TownAir u = Due.laid("c2;s0,0,0;m0,1,5;");
    u.pass(1);
    Due.is("five on in a ring of two", u.man(0, 1), 0);
    Due.is("no man", Due.laid("s0,0,0;").man(0, 0), BAD);
  }

  // 2 of the terms
  static void kindsOnADay() {
    // each kind in each quarter of five, one man of lord 0 who stays in 0, guilds in 0 and 1
    for (int kind = 0; kind < 4; kind++) {
      for (int q = 0; q < 5; q++) {
        for (int guild = 0; guild < 2; guild++) {
          TownAir t = Due.laid("n4;c5;" + (guild == 1 ? "g0;g1;" : "") + "s" + kind + ",0," + q + ";s" + kind + ",1," + q + ";m0,0,0;");
          boolean near = q == 1 || q == 4;
          boolean taken = kind == 2 ? q == 0 || near : kind == 1 ? q == 0 && guild == 0 : q == 0;
          int day = kind == 3 ? 2 : 1;
          String name = "kind " + kind + " quarter " + q + " guild " + guild;
          Due.is(name + " ends", t.ends(0), taken ? day : 4);
          Due.is(name + " how", t.behind(0, 4, 0), taken ? 2 : 3);
          Due.is(name + " stayed", t.behind(0, 4, 1), taken ? day - 1 : 4);
          Due.is(name + " of another lord", t.behind(1, 4, 0), 3);
        }
      }
    }
    Due.is("a mother next in a ring of two", Due.laid("c2;s2,0,1;m0,0,0;").ends(0), 1);
    Due.is("a plain one next in a ring of two", Due.laid("n3;c2;s0,0,1;m0,0,0;").ends(0), 3);
    // taken on the day that would have been the last
    TownAir last = Due.laid("n3;c3;s0,0,2;m0,0,1;");
    Due.is("taken ahead of staying", last.behind(0, 3, 0), 2);
    Due.is("stayed one less", last.behind(0, 3, 1), 2);
    // two men on one day meet a renamed one once
    Due.is("two men, one day", Due.laid("n9;c6;s3,0,0;m0,0,0;m0,0,0;").ends(0), 2);
    Due.is("met twice in six days", Due.laid("n9;c6;s3,0,0;m0,0,1;").ends(0), 7);
  }

  // 8
  static void move() {
    TownAir t = Due.laid("n5;c4;s0,0,1;s3,0,2;s0,1,0;m1,0,0;m0,2,0;");
    t.pass(1);
    Due.is("move keeps days", t.move(0, 3), 1);
    Due.is("moved", t.serf(0, 2), 3);
    Due.is("move where he lives", t.move(0, 3), NO);
    Due.is("move one taken", t.move(2, 3), NO);
    t.leave(1);
    Due.is("move from outside to where he lived", t.move(1, 2), 0);
    Due.is("inside again", t.serf(1, 3), 0);
    Due.is("met is not forgotten", t.serf(1, 5), 1);
    Due.is("undoable", t.count(8), 4);
    t.pass(4);
    Due.is("free", t.serf(0, 3), 3);
    Due.is("move one free", t.move(0, 1), NO);
    Due.is("bad ahead of no", t.move(0, 4), BAD);
    for (int n : new int[] {Integer.MIN_VALUE, -1, 3, Integer.MAX_VALUE}) Due.is("move serf " + n, t.move(n, 0), BAD);
    for (int n : new int[] {Integer.MIN_VALUE, -1, 4, Integer.MAX_VALUE}) Due.is("move to " + n, t.move(1, n), BAD);
    Due.is("undoable still", t.count(8), 5);
  }

  // 9
  static void leave() {
    TownAir t = Due.laid("n5;c4;s0,0,1;s0,1,0;s0,2,3;m1,0,0;");
    t.pass(3);
    Due.is("leave", t.leave(0), 3);
    Due.is("outside", t.serf(0, 3), 1);
    Due.is("stayed none", t.serf(0, 4), 0);
    Due.is("leave outside", t.leave(0), NO);
    Due.is("leave taken", t.leave(1), NO);
    t.pass(2);
    Due.is("leave free", t.leave(2), NO);
    Due.is("outside no day is stayed", t.serf(0, 4), 0);
    Due.is("back inside", t.move(0, 1), 0);
    for (int n : new int[] {Integer.MIN_VALUE, -1, 3, Integer.MAX_VALUE}) Due.is("leave " + n, t.leave(n), BAD);
    Due.is("undoable", t.count(8), 4);
  }

  // 10
  static void send() {
    TownAir t = Due.laid("n5;c4;s0,0,1;m0,2,1;m1,0,3;");
    Due.is("send", t.send(0, 0), 2);
    Due.is("send on", t.send(0, 3), 0);
    Due.is("send where he is", t.send(0, 3), 3);
    Due.is("where", t.man(0, 1), 3);
    Due.is("each can be undone", t.count(8), 3);
    t.pass(1);
    Due.is("goes on from there", t.man(0, 1), 0);
    Due.is("by as much", t.man(0, 2), 1);
    for (int n : new int[] {Integer.MIN_VALUE, -1, 2, Integer.MAX_VALUE}) Due.is("send man " + n, t.send(n, 0), BAD);
    for (int n : new int[] {Integer.MIN_VALUE, -1, 4, Integer.MAX_VALUE}) Due.is("send to " + n, t.send(0, n), BAD);
    Due.is("undoable", t.count(8), 4);
    Due.is("no man to send", Due.laid("s0,0,0;").send(0, 0), BAD);
  }

  // 11
  static void pass() {
    TownAir t = new TownAir();
    for (int n : new int[] {Integer.MIN_VALUE, -1, 0, 61, Integer.MAX_VALUE}) Due.is("pass " + n, t.pass(n), BAD);
    Due.is("bad is no act", t.count(8), 0);
    Due.is("pass 1", t.pass(1), 0);
    Due.is("pass 1 more", t.pass(1), 2);
    Due.is("only those who were taken in them", t.pass(60), 0);
    Due.is("days", t.count(4), 62);
    Due.is("taken", t.count(5), 2);
    Due.is("free", t.count(6), 3);
    for (int i = 0; i < 15; i++) t.pass(60);
    Due.is("days", t.count(4), 962);
    Due.is("pass to 1000", t.pass(38), NO);
    Due.is("pass to 999", t.pass(37), 0);
    Due.is("days", t.count(4), 999);
    Due.is("pass beyond", t.pass(1), NO);
    Due.is("bad ahead of no", t.pass(61), BAD);
    Due.is("undoable", t.count(8), 8);
    Due.is("what comes has no such end", t.behind(0, 99, 0), 2);
  }

  // 12
  static void undo() {
    TownAir t = Due.laid("n3;c4;s3,0,1;s0,1,2;m0,1,1;m1,3,3;");
    Due.is("undo nothing", t.undo(), NO);
    t.pass(2);
    Due.is("taken", t.count(5), 1);
    Due.is("undo pass", t.undo(), 0);
    int[] first = {3, 0, 1, 0, 0, 0, 1};
    for (int w = 0; w < 7; w++) Due.is("undone serf " + w, t.serf(0, w), first[w]);
    Due.is("undone taken", t.count(5), 0);
    Due.is("undone days", t.count(4), 0);
    Due.is("undone man", t.man(1, 1), 3);
    t.pass(1);
    t.leave(0);
    Due.is("undo leave", t.undo(), 1);
    Due.is("inside again", t.serf(0, 3), 0);
    Due.is("stayed again", t.serf(0, 4), 1);
    t.move(0, 3);
    Due.is("undo move", t.undo(), 1);
    Due.is("moved back", t.serf(0, 2), 1);
    t.send(0, 0);
    Due.is("undo send", t.undo(), 1);
    Due.is("sent back", t.man(0, 1), 2);
    t.lay();
    for (int i = 0; i < 11; i++) t.send(0, i % 4);
    Due.is("the last 8", t.count(8), 8);
    for (int i = 7; i >= 0; i--) {
      Due.is("undo to " + i, t.undo(), i);
      Due.is("man at " + i, t.man(0, 1), (i + 2) % 4);
    }
    Due.is("undo no more", t.undo(), NO);
    Due.is("man stays", t.man(0, 1), 2);
    t.seen(0, 1, 0);
    t.send(0, 1);
    t.seen(0, 2, 0);
    t.keep();
    t.undo();
    Due.is("seen is not undone", t.count(7), 2);
    Due.is("kept is not undone", t.count(9), 1);
  }

  // 13
  static void behind() {
    TownAir t = new TownAir();
    int[] how = {0, 0, 2};
    for (int n = 0; n < 3; n++) Due.is("behind " + n, t.behind(0, n, 0), how[n]);
    Due.is("behind 99", t.behind(0, 99, 0), 2);
    Due.is("behind 8 free", t.behind(1, 8, 0), 0);
    Due.is("behind 9 free", t.behind(1, 9, 0), 3);
    Due.is("behind 99 stayed", t.behind(1, 99, 1), 9);
    Due.is("behind 5 stayed", t.behind(1, 5, 1), 5);
    Due.is("behind 0 taken", t.behind(1, 0, 2), 0);
    Due.is("behind 2 taken", t.behind(1, 2, 2), 2);
    t.pass(2);
    Due.is("behind 0 of now", t.behind(0, 0, 2), 2);
    Due.is("stayed from now", t.behind(1, 3, 1), 5);
    t.leave(1);
    Due.is("outside for ever", t.behind(1, 99, 0), 1);
    Due.is("outside none", t.behind(1, 99, 1), 0);
    for (int n : new int[] {Integer.MIN_VALUE, -1, 5, Integer.MAX_VALUE}) Due.is("behind serf " + n, t.behind(n, 0, 0), BAD);
    for (int n : new int[] {Integer.MIN_VALUE, -1, 100, Integer.MAX_VALUE}) Due.is("behind days " + n, t.behind(0, n, 0), BAD);
    for (int n : new int[] {Integer.MIN_VALUE, -1, 3, Integer.MAX_VALUE}) Due.is("behind what " + n, t.behind(0, 0, n), BAD);
  }

  // 14
  static void ends() {
    TownAir t = new TownAir();
    int[] want = {2, 9, 2, 9, 9};
    for (int s = 0; s < 5; s++) Due.is("ends " + s, t.ends(s), want[s]);
    t.pass(4);
    int[] later = {0, 5, 0, 5, 5};
    for (int s = 0; s < 5; s++) Due.is("ends later " + s, t.ends(s), later[s]);
    t.leave(4);
    Due.is("ends outside", t.ends(4), NONE);
    t.pass(60);
    Due.is("ends free", t.ends(1), 0);
    for (int n : new int[] {Integer.MIN_VALUE, -1, 5, Integer.MAX_VALUE}) Due.is("ends serf " + n, t.ends(n), BAD);
    Due.is("ends 60", Due.laid("n60;s0,0,0;").ends(0), 60);
  }

  // 15
  static void live() {
    TownAir t = Due.laid("n6;c4;s0,0,3;s0,1,3;s2,0,3;m0,0,0;m1,0,1;");
    Due.is("live: the lowest", t.live(0, 0), 1);
    Due.is("live: behind", t.live(0, 1), 6);
    Due.is("live: nowhere", t.live(1, 0), NONE);
    Due.is("live: nowhere, behind", t.live(1, 1), NONE);
    Due.is("live: a mother", t.live(2, 0), 2);
    t.pass(2);
    Due.is("a mother next is taken", t.live(2, 0), NO);
    Due.is("live keeps days", t.live(0, 1), 4);
    Due.is("live asks only", t.serf(0, 2), 3);
    t.leave(0);
    Due.is("live from outside", t.live(0, 0), 1);
    Due.is("live from outside, behind", t.live(0, 1), 6);
    Due.is("still outside", t.serf(0, 3), 1);
    t.pass(60);
    Due.is("live taken", t.live(1, 0), NO);
    t.move(0, 2);
    t.pass(6);
    Due.is("live free", t.live(0, 1), NO);
    for (int n : new int[] {Integer.MIN_VALUE, -1, 3, Integer.MAX_VALUE}) Due.is("live serf " + n, t.live(n, 0), BAD);
    for (int n : new int[] {Integer.MIN_VALUE, -1, 2, Integer.MAX_VALUE}) Due.is("live what " + n, t.live(0, n), BAD);
  }

  static void wayIs(TownAir t, int s, int... quarters) {
    for (int k = 1; k <= 60; k++) Due.is("way " + s + " " + k, t.way(s, k), k <= quarters.length ? quarters[k - 1] : NONE);
  }

  // 16
  static void way() {
    TownAir t = Due.laid("n5;c5;s0,0,3;s2,0,2;s0,1,2;s1,0,1;m0,0,1;g0;");
    // the man is in 0, 1, 2, 3, 4 on the days
    wayIs(t, 0, 2, 2, 1, 0, 0);
    // a mother keeps two away from him: 2 or 3, 3 or 4, 4 or 0, 0 or 1, 1 or 2
    wayIs(t, 1, 2, 3, 4, 0, 1);
    wayIs(t, 2, 1, 0, 0, 0, 0);
    // a craftsman is not found in 0
    wayIs(t, 3, 0, 0, 0, 0, 0);
    t.pass(1);
    wayIs(t, 0, 2, 1, 0, 0);
    t.leave(0);
    Due.is("way outside", t.way(0, 1), NO);
    Due.is("bad ahead of no", t.way(0, 0), BAD);
    t.pass(4);
    Due.is("way free", t.way(2, 1), NO);
    for (int n : new int[] {Integer.MIN_VALUE, -1, 4, Integer.MAX_VALUE}) Due.is("way serf " + n, t.way(n, 1), BAD);
    for (int n : new int[] {Integer.MIN_VALUE, -1, 0, 61, Integer.MAX_VALUE}) Due.is("way k " + n, t.way(0, n), BAD);
    wayIs(Due.laid("c2;s0,0,0;m0,0,0;m0,1,0;"), 0);
    wayIs(Due.laid("c3;s2,0,0;m0,0,0;"), 0);
    wayIs(Due.laid("n3;c6;s0,0,5;"), 0, 0, 0, 0);
    wayIs(Due.laid("n3;c6;s0,0,3;"), 0, 2, 1, 0);
    TownAir long60 = Due.laid("n60;c2;s0,0,0;m0,0,1;");
    for (int k = 1; k <= 60; k++) Due.is("way of 60, " + k, long60.way(0, k), k % 2);
    // the lowest first step leads nowhere: 0, 1 and 2 are watched on the second day
    wayIs(Due.laid("n2;c4;s0,0,2;m0,3,3;m0,0,1;m0,3,1;"), 0, 2, 3);
  }

  static void wayOfRenamed() {
    // one man who stays in each of three of four quarters: he may be met once
    TownAir t = Due.laid("n4;c4;s3,0,2;m0,0,0;m0,1,0;m0,2,0;");
    wayIs(t, 0, 2, 3, 3, 3);
    t.pass(1);
    wayIs(t, 0, 3, 3, 3);
    Due.is("spent", t.serf(0, 5), 1);
    TownAir everywhere = Due.laid("n2;c2;s3,0,0;m0,0,0;m0,1,0;");
    wayIs(everywhere, 0);
    everywhere.pass(1);
    wayIs(everywhere, 0);
    // it is best to be met as late as it must be, but the first way is the lowest
    wayIs(Due.laid("n3;c2;s3,0,1;m0,0,0;"), 0, 0, 1, 1);
  }

  // 17
  static void hunt() {
    TownAir t = new TownAir();
    int[][] want = {{0, 2}, {0, 3}, {0, 3}};
    for (int lord = 0; lord < 3; lord++) for (int w = 0; w < 2; w++) Due.is("hunt " + lord + " " + w, t.hunt(lord, w), want[lord][w]);
    TownAir u = Due.laid("n2;c6;s0,0,3;s0,0,4;s0,0,1;s1,0,5;g5;s0,1,2;");
    // two days: 1 and then 3 by 2, which is ahead of 3 and then 4 by 1
    Due.is("hunt where", u.hunt(0, 0), 12);
    Due.is("hunt how many", u.hunt(0, 1), 2);
    Due.is("hunt one", u.hunt(1, 0), 2);
    Due.is("hunt one, how many", u.hunt(1, 1), 1);
    Due.is("hunt nobody", u.hunt(2, 0), 0);
    Due.is("hunt nobody, how many", u.hunt(2, 1), 0);
    TownAir full = Due.laid("n3;c2;s0,0,1;s3,0,1;m1,0,0;m1,0,0;m1,0,0;m1,0,0;m1,0,0;");
    Due.is("one more than five", full.hunt(0, 0), 10);
    Due.is("one more than five, how many", full.hunt(0, 1), 2);
    TownAir late = Due.laid("n60;c6;s0,0,0;s0,0,1;s0,1,1;m1,1,0;");
    late.pass(1);
    Due.is("those taken before count", late.hunt(0, 1), 3);
    // serf 0 in 3 lacks one day, serf 1 in 2 lacks two: only 3 and then 2 takes both
    TownAir turn = Due.laid("n3;c6;s0,0,3;s0,0,2;");
    turn.leave(1);
    turn.pass(1);
    turn.move(1, 2);
    turn.pass(1);
    Due.is("hunt by five", turn.hunt(0, 0), 35);
    Due.is("hunt by five, how many", turn.hunt(0, 1), 2);
    for (int n : new int[] {Integer.MIN_VALUE, -1, 3, Integer.MAX_VALUE}) Due.is("hunt lord " + n, t.hunt(n, 0), BAD);
    for (int n : new int[] {Integer.MIN_VALUE, -1, 2, Integer.MAX_VALUE}) Due.is("hunt what " + n, t.hunt(0, n), BAD);
    Due.is("men are as many", t.count(1), 2);
  }

  // 18
  static void proof() {
    TownAir t = Due.laid("s0,0,0;w0,9;w5,20;w8,30;w31,40;w10,12;w98,99;");
    int[][] rows = {{0, 0, 1}, {0, 9, 1}, {0, 10, 2}, {0, 30, 2}, {0, 40, 3}, {9, 9, 1}, {9, 31, 2}, {10, 12, 1}, {0, 41, NONE},
        {41, 41, NONE}, {40, 41, NONE}, {98, 99, 1}, {97, 99, NONE}, {99, 99, 1}, {5, 30, 2}, {8, 30, 1}, {0, 99, NONE}, {3, 2, BAD},
        {0, 100, BAD}, {-1, 5, BAD}, {100, 100, BAD}, {99, 0, BAD}};
    for (int[] r : rows) Due.is("proof " + r[0] + " " + r[1], t.proof(r[0], r[1]), r[2]);
    for (int n : FAR) {
      Due.is("proof from " + n, t.proof(n, 5), BAD);
      Due.is("proof to " + n, t.proof(5, n), BAD);
    }
    TownAir six = Due.laid("s0,0,0;w0,1;w2,3;w4,5;w6,7;w8,9;w10,11;");
    Due.is("all six", six.proof(1, 10), 6);
    Due.is("behind all six", six.proof(0, 12), NONE);
  }

  // 19
  static void gap() {
    TownAir t = Due.laid("s0,0,0;w3,9;w5,20;w22,99;");
    int[][] rows = {{0, 99, 0}, {3, 20, NONE}, {3, 21, 21}, {4, 99, 21}, {22, 99, NONE}, {21, 21, 21}, {3, 3, NONE}, {2, 3, 2}, {1, 0, BAD},
        {0, 100, BAD}, {-1, 0, BAD}};
    for (int[] r : rows) Due.is("gap " + r[0] + " " + r[1], t.gap(r[0], r[1]), r[2]);
    for (int n : FAR) {
      Due.is("gap from " + n, t.gap(n, 5), BAD);
      Due.is("gap to " + n, t.gap(5, n), BAD);
    }
    Due.is("gap without notches", Due.laid("s0,0,0;").gap(7, 9), 7);
  }

  // 20
  static void seen() {
    TownAir t = new TownAir();
    for (int n : new int[] {Integer.MIN_VALUE, -1, 5, Integer.MAX_VALUE}) Due.is("seen serf " + n, t.seen(n, 1, 0), BAD);
    for (int n : new int[] {Integer.MIN_VALUE, -1, 0, 100, Integer.MAX_VALUE}) Due.is("seen days " + n, t.seen(0, n, 0), BAD);
    for (int n : new int[] {Integer.MIN_VALUE, -1, 4, Integer.MAX_VALUE}) Due.is("seen how " + n, t.seen(0, 1, n), BAD);
    Due.is("nothing is seen by that", t.count(7), 0);
    for (int i = 1; i <= 8; i++) Due.is("seen " + i, t.seen(4, i == 1 ? 99 : 1, 3 - i % 4), i);
    Due.is("seen a ninth", t.seen(0, 1, 0), FULL);
    Due.is("bad ahead of full", t.seen(0, 1, 4), BAD);
    Due.is("seen", t.count(7), 8);
  }

  // 21
  static void forget() {
    TownAir t = new TownAir();
    Due.is("forget nothing", t.forget(), 0);
    t.seen(0, 1, 2);
    t.seen(0, 1, 2);
    Due.is("lords", t.lords(0), 2);
    Due.is("forget", t.forget(), 2);
    Due.is("forgotten", t.count(7), 0);
    Due.is("lords then", t.lords(0), 7);
    Due.is("forget again", t.forget(), 0);
  }

  // 22
  static void lords() {
    TownAir t = new TownAir();
    for (int s = 0; s < 5; s++) Due.is("lords of " + s, t.lords(s), 7);
    // serf 0 lives in 1: lord 0's man comes there on the second day, lord 1's is there on the first
    t.seen(0, 1, 0);
    Due.is("not lord 1's", t.lords(0), 5);
    t.seen(0, 9, 3);
    Due.is("lord 2's", t.lords(0), 4);
    Due.is("another's lords", t.lords(1), 7);
    t.forget();
    t.seen(0, 2, 2);
    Due.is("taken behind two", t.lords(0), 3);
    // what has been done since counts for nothing
    t.send(1, 3);
    t.leave(0);
    t.pass(5);
    Due.is("as the text tells", t.lords(0), 3);
    Due.is("his own is as it was", t.serf(0, 1), 0);
    t.seen(0, 99, 2);
    Due.is("behind 99", t.lords(0), 3);
    t.seen(0, 3, 1);
    Due.is("never outside", t.lords(0), 0);
    for (int n : new int[] {Integer.MIN_VALUE, -1, 5, Integer.MAX_VALUE}) Due.is("lords serf " + n, t.lords(n), BAD);
    TownAir kinds = Due.laid("n5;c3;s3,2,0;s2,0,1;m0,0,1;m1,0,0;m2,1,0;");
    kinds.seen(0, 2, 2);
    Due.is("renamed: twice in two", kinds.lords(0), 2);
    kinds.seen(1, 1, 0);
    Due.is("a mother in a ring of three", kinds.lords(1), 0);
  }

  // 23
  static void leap() {
    TownAir t = new TownAir();
    int[][] rows = {{1, 0}, {8, 0}, {9, 26}, {10, 0}, {99, 0}, {0, BAD}, {100, BAD}, {-1, BAD}, {Integer.MIN_VALUE, BAD}, {Integer.MAX_VALUE, BAD}};
    for (int[] r : rows) Due.is("leap " + r[0], t.leap(r[0]), r[1]);
    t.pass(3);
    Due.is("leap from now", t.leap(6), 26);
    t.leave(4);
    Due.is("leap outside", t.leap(6), 10);
    t.pass(6);
    Due.is("who is free stays so", t.leap(1), 0);
    // taken on the day more
    TownAir u = Due.laid("n3;c4;s0,0,3;m0,0,1;s0,1,3;");
    int[] want = {0, 0, 3, 1, 1};
    for (int n = 1; n <= 5; n++) Due.is("leap, taken on the day more, " + n, u.leap(n), want[n - 1]);
    Due.is("n is as it was", u.count(3), 3);
    Due.is("leap at 60", Due.laid("n60;s0,0,0;").leap(60), 1);
  }

  // 24
  static void sure() {
    int[][] rows = {{0, 0, 0, 1, 1}, {0, 10, 0, 1, 1}, {0, 10, 1, 1, 1}, {0, 5, 1, 1, 1}, {1, 10, 0, 0, 1}, {1, 10, 1, 1, 1}, {1, 3, 0, 7, 10},
        {1, 3, 1, 1, 1}, {2, 5, 0, 1, 4}, {2, 5, 1, 3, 4}, {2, 10, 1, 0, 1}, {8, 10, 0, 0, 1}, {8, 0, 0, 1, 1}, {8, 0, 1, 1, 1},
        {8, 9, 0, 1, 100000000}, {8, 9, 1, 73, 100000000}, {8, 1, 0, 43046721, 100000000}, {8, 1, 1, 81310473, 100000000},
        {3, 2, 0, 64, 125}, {3, 2, 1, 112, 125}, {8, 5, 1, 9, 256}};
    TownAir t = new TownAir();
    for (int[] r : rows) {
      for (int part = 0; part < 2; part++) {
        Due.is("sure " + r[0] + " " + r[1] + " " + r[2] + " " + part, t.sure(r[0], r[1], r[2], part), r[3 + part]);
      }
    }
    for (int n : new int[] {Integer.MIN_VALUE, -1, 9, Integer.MAX_VALUE}) Due.is("sure days " + n, t.sure(n, 1, 0, 0), BAD);
    for (int n : new int[] {Integer.MIN_VALUE, -1, 11, Integer.MAX_VALUE}) Due.is("sure of ten " + n, t.sure(1, n, 0, 0), BAD);
    for (int n : new int[] {Integer.MIN_VALUE, -1, 2, Integer.MAX_VALUE}) Due.is("sure twice " + n, t.sure(1, 1, n, 0), BAD);
    for (int n : new int[] {Integer.MIN_VALUE, -1, 2, Integer.MAX_VALUE}) Due.is("sure part " + n, t.sure(1, 1, 0, n), BAD);
  }

  // 25
  static void year() {
    TownAir t = new TownAir();
    for (int n : new int[] {Integer.MIN_VALUE, -1, 10000, Integer.MAX_VALUE}) Due.is("year by " + n, t.year(n, 1, 0), BAD);
    for (int n : new int[] {Integer.MIN_VALUE, -1, 0, 61, Integer.MAX_VALUE}) Due.is("year of " + n, t.year(0, n, 0), BAD);
    for (int n : new int[] {Integer.MIN_VALUE, -1, 2, Integer.MAX_VALUE}) Due.is("year what " + n, t.year(0, 1, n), BAD);
    // by 0 x is 1 at first and DRAW 0: serf 0 moves to quarter 0, where the man is
    Due.is("year: moved to the man", Due.laid("n9;c3;s0,0,1;s0,1,1;m0,0,0;").year(0, 1, 0), 1);
    Due.is("year: not moved", Due.laid("n9;c3;s0,0,1;s0,1,1;m0,1,0;").year(0, 1, 0), 0);
    // the same acts on another town, done by hand
    for (int z : new int[] {0, 1, 2, 77, 500, 4321, 9999}) {
      for (int n : new int[] {1, 2, 9, 10, 33, 60}) {
        TownAir hand = new TownAir();
        hand.pass(1);
        int[] want = yearByHand(hand, z, n);
        TownAir asked = new TownAir();
        asked.pass(1);
        Due.is("year " + z + " " + n + " taken", asked.year(z, n, 0), want[0]);
        Due.is("year " + z + " " + n + " free", asked.year(z, n, 1), want[1]);
        Due.is("year asks only", asked.count(4), 1);
        Due.is("year can't be undone", asked.count(8), 1);
      }
    }
  }

  static int[] yearByHand(TownAir t, int z, int n) {
    for (int day = 0; day < n; day++) {
      java.math.BigInteger x = java.math.BigInteger.valueOf(7919L * z + 6151L * day + 1);
      int draw = x.multiply(x).mod(java.math.BigInteger.valueOf(65521)).intValue() / 2;
      int s = draw % t.count(0);
      int third = (draw / 64) % 3;
      if (third == 0) t.move(s, (draw / 8) % t.count(2));
      if (third == 1 && (draw / 256) % 4 == 0) t.leave(s);
      t.pass(1);
    }
    return new int[] {t.count(5), t.count(6)};
  }

  // 26
  static void keep() {
    TownAir t = new TownAir();
    Due.is("keep", t.keep(), 1);
    Due.is("keep another", t.keep(), 2);
    Due.is("keep a third", t.keep(), FULL);
    Due.is("kept", t.count(9), 2);
    t.back();
    Due.is("keep again", t.keep(), 2);
    t.move(0, 0);
    Due.is("keep leaves what can be undone", t.count(8), 1);
  }

  // 27
  static void back() {
    TownAir t = Due.laid("n6;c4;s3,0,1;s0,1,2;m0,1,0;m1,3,3;");
    Due.is("back to nothing", t.back(), NO);
    t.pass(1);
    t.keep();
    t.send(0, 3);
    t.seen(0, 1, 1);
    t.leave(1);
    t.keep();
    t.pass(5);
    t.seen(0, 1, 2);
    Due.is("back", t.back(), 1);
    Due.is("days", t.count(4), 1);
    Due.is("outside", t.serf(1, 3), 1);
    Due.is("man", t.man(0, 1), 3);
    Due.is("nothing is undone", t.count(8), 0);
    Due.is("nothing is undone, undo", t.undo(), NO);
    Due.is("seen is not kept", t.count(7), 2);
    t.move(1, 0);
    Due.is("back to the first", t.back(), 0);
    int[] first = {3, 0, 1, 0, 1, 1, 1};
    for (int w = 0; w < 7; w++) Due.is("kept serf " + w, t.serf(0, w), first[w]);
    Due.is("kept other", t.serf(1, 2), 2);
    Due.is("kept man", t.man(0, 1), 1);
    Due.is("seen is not kept", t.count(7), 2);
    Due.is("back no more", t.back(), NO);
    Due.is("undo no more", t.undo(), NO);
  }

  // 28
  static void count() {
    TownAir t = Due.laid("n7;c5;s0,0,0;s0,1,1;s0,2,2;m0,0,0;m1,4,0;");
    t.pass(6);
    t.pass(1);
    t.seen(0, 1, 2);
    t.keep();
    t.keep();
    int[] want = {3, 2, 5, 7, 7, 1, 2, 1, 2, 2, 42};
    t.wipe();
    for (int i = 0; i < 42; i++) t.write('x');
    for (int i = 0; i < want.length; i++) Due.is("count " + i, t.count(i), want[i]);
    for (int n : new int[] {Integer.MIN_VALUE, -1, 11, Integer.MAX_VALUE}) Due.is("count " + n, t.count(n), BAD);
  }

  /** All that asks leaves all as it is. */
  static void nothingChangesByAsking() {
    TownAir t = new TownAir();
    t.pass(1);
    t.seen(0, 1, 0);
    t.keep();
    long before = state(t);
    for (int i = 0; i < 5; i++) {
      t.fault();
      t.behind(i, 50, 0);
      t.ends(i);
      t.live(i, 0);
      t.way(i, 3);
      t.hunt(i, 0);
      t.proof(0, i);
      t.gap(0, i);
      t.lords(i);
      t.leap(9 + i);
      t.sure(i, i, 0, 0);
      t.year(i, 60, 0);
      t.lay();
      Due.is("state behind asking", state(t), before);
    }
  }

  static long state(TownAir t) {
    long hash = 7;
    for (int i = 0; i < 11; i++) hash = hash * 31 + t.count(i);
    for (int s = 0; s < t.count(0); s++) for (int w = 0; w < 7; w++) hash = hash * 31 + t.serf(s, w);
    for (int m = 0; m < t.count(1); m++) for (int w = 0; w < 3; w++) hash = hash * 31 + t.man(m, w);
    return hash;
  }
}
