/** Part 1 of the document, sentence by sentence: the last that is taken and the first that is not. */
public final class TextEdgeTest {
  static final int BAD = TownAir.BAD, NO = TownAir.NO, FULL = TownAir.FULL, NONE = TownAir.NONE;

  public static void main(String[] args) {
    lettersAtMost();
    figuresOfANumber();
    marksOfAnItem();
    howManyNumbers();
    daysWanted();
    quarters();
    quartersAheadOfAll();
    guilds();
    guildToldOnceMore();
    serfs();
    men();
    notches();
    placeOfTheFault();
    laidOfASerfAtLeast();
    Due.end();
  }

  static void taken(String text) {
    TownAir t = new TownAir();
    Due.write(t, text);
    Due.is("fault of " + text, t.fault(), NONE);
  }

  /** An ITEM that is not so, wherever it stands. */
  static void notTaken(String item) {
    notTaken("", item);
    notTaken("n7;", item);
    notTaken("s0,0,0;", item);
  }

  /** An ITEM that is not so behind these. */
  static void notTaken(String ahead, String item) {
    TownAir t = new TownAir();
    Due.write(t, ahead + item);
    Due.is("fault of " + ahead + item, t.fault(), ahead.length());
    Due.is("lay of " + ahead + item, t.lay(), NO);
    Due.is("the first town still", t.count(0), 5);
  }

  // "letters (200 at most)"
  static void lettersAtMost() {
    TownAir t = new TownAir();
    Due.is("none at first", t.count(10), 0);
    String full = "s0,0,0;" + "n5;".repeat(63) + "n06;";
    Due.is("200 letters", full.length(), 200);
    Due.write(t, full.substring(0, 199));
    Due.is("199 letters", t.count(10), 199);
    Due.is("an ITEM without its end", t.fault(), 196);
    Due.is("the 200th", t.write(';'), 200);
    Due.is("the 201st", t.write(';'), FULL);
    Due.is("letters", t.count(10), 200);
    Due.is("no FAULT in 200", t.fault(), NONE);
    Due.is("lay 200", t.lay(), 1);
    Due.is("read to the last letter", t.count(3), 6);
    Due.is("THE TEXT is left", t.count(10), 200);
    Due.is("wipe 200", t.wipe(), 200);
    Due.is("the first again", t.write('c'), 1);
    TownAir u = new TownAir();
    Due.write(u, "n5;".repeat(66) + "n");
    Due.is("write the 200th", u.write('6'), 200);
    Due.is("cut at 200", u.fault(), 198);
    Due.is("lay cut at 200", u.lay(), NO);
    // "32 to 126, as in ASCII"
    TownAir v = new TownAir();
    for (int letter = 32; letter <= 126; letter++) Due.is("letter " + letter, v.write(letter), letter - 31);
    for (int letter : new int[] {31, 127, 128, 255, 32 + 256, 126 + 65536, -1, 0, Integer.MIN_VALUE, Integer.MAX_VALUE}) {
      Due.is("letter " + letter, v.write(letter), BAD);
    }
    Due.is("95 letters", v.wipe(), 95);
    Due.is("empty", v.wipe(), 0);
  }

  // "numbers (one or two figures)"
  static void figuresOfANumber() {
    String[] one = {"n5;", "c5;", "g3;", "s3,2,3;", "m2,3,5;", "w5,6;"};
    String[] two = {"n05;", "c05;", "g03;", "s03,02,03;", "m02,03,05;", "w05,06;"};
    String[] three = {"n005;", "c005;", "g003;", "s003,2,3;", "s3,002,3;", "s3,2,003;", "m002,3,5;", "m2,003,5;", "m2,3,005;", "w005,6;", "w5,006;"};
    String[] none = {"n;", "c;", "g;", "s,2,3;", "s3,,3;", "s3,2,;", "m,3,5;", "m2,,5;", "m2,3,;", "w,6;", "w5,;"};
    for (String item : one) taken(item);
    for (String item : two) taken(item);
    for (String item : three) notTaken(item);
    for (String item : none) notTaken(item);
    // the signs next to 0 and 9 are no figures
    for (String item : new String[] {"n/;", "n:;", "n5/;", "n5:;", "n/5;", "n:5;", "n 5;", "n5 ;", "n-5;", "n+5;"}) notTaken(item);
    TownAir t = new TownAir();
    Due.write(t, "n05;c06;s03,02,05;m01,04,03;w08,09;");
    Due.is("lay with two figures", t.lay(), 1);
    int[] serf = {3, 2, 5}, man = {1, 4, 3};
    for (int w = 0; w < 3; w++) {
      Due.is("serf of two figures " + w, t.serf(0, w), serf[w]);
      Due.is("man of two figures " + w, t.man(0, w), man[w]);
    }
    Due.is("n of two figures", t.count(3), 5);
    Due.is("gap ahead", t.gap(0, 99), 0);
    Due.is("gap behind", t.gap(8, 99), 10);
  }

  // "each a letter, then numbers parted by , and a ; behind the last one"
  static void marksOfAnItem() {
    for (String item : new String[] {"n5", "n5,", "n5.", "n5:", "n5 ", "n,5;", ",n5;", "nn5;", "n5n", "s0,0,0", "s0;0,0;", "s0.0,0;",
        "s0,0,0,", "s0,0 0;", "m0,0,0", "m0;0;0;", "w0,0", "w0;0;", "w0 0;", "w0,,0;"}) {
      notTaken(item);
    }
    notTaken(";");
    // letters that are next to those of ITEMS, or the same in another size
    for (char letter : "abdefhijklopqrtuvxyzNCGSMW5,; ".toCharArray()) {
      notTaken(letter + "2;");
      notTaken(letter + "2,2;");
      notTaken(letter + "2,2,2;");
    }
  }

  static void howManyNumbers() {
    String[] letters = {"n", "c", "g", "s", "m", "w"};
    int[] due = {1, 1, 1, 3, 3, 2};
    for (int i = 0; i < letters.length; i++) {
      for (int many = 1; many <= 4; many++) {
        String item = letters[i] + "2" + ",2".repeat(many - 1) + ";";
        if (many == due[i]) taken(item);
        else notTaken(item);
      }
    }
  }

  // "nN one is FREE behind N (2 to 60) DAYS (20 without; the last one)"
  static void daysWanted() {
    for (int n = 0; n <= 99; n++) {
      if (n >= 2 && n <= 60) taken("n" + n + ";");
      else notTaken("n" + n + ";");
    }
    int[] edges = {2, 3, 59, 60};
    for (int n : edges) {
      TownAir t = Due.laid("n" + n + ";s0,0,0;");
      Due.is("N " + n, t.count(3), n);
      Due.is("free behind " + n, t.ends(0), n);
      Due.is("not behind one less than " + n, t.behind(0, n - 1, 0), 0);
      Due.is("how behind " + n, t.behind(0, n, 0), 3);
    }
    TownAir without = Due.laid("s0,0,0;");
    Due.is("20 without", without.count(3), 20);
    Due.is("free behind 20", without.ends(0), 20);
    Due.is("the last one", Due.laid("n5;s0,0,0;n60;n2;").count(3), 2);
    Due.is("the last one is larger", Due.laid("n2;n5;s0,0,0;n60;").ends(0), 60);
    // what an earlier TEXT told is not left over
    TownAir again = Due.laid("n5;c6;g1;s0,0,5;m0,1,1;w0,9;");
    again.wipe();
    Due.write(again, "s1,1,1;");
    Due.is("lay again", again.lay(), 1);
    Due.is("20 without, again", again.count(3), 20);
    Due.is("4 without, again", again.count(2), 4);
    Due.is("no MEN, again", again.count(1), 0);
    Due.is("no NOTCH, again", again.gap(0, 0), 0);
    Due.is("send nobody", again.send(0, 0), BAD);
    again.wipe();
    Due.write(again, "s1,0,1;m0,1,0;");
    again.lay();
    Due.is("no GUILD, again", again.ends(0), 1);
  }

  // "cC there are C (2 to 6) QUARTERS, 0, 1, .. in a ring (4 without"
  static void quarters() {
    for (int c = 0; c <= 99; c++) {
      if (c >= 2 && c <= 6) taken("c" + c + ";");
      else notTaken("c" + c + ";");
    }
    for (int c = 2; c <= 6; c++) {
      String ahead = "c" + c + ";";
      TownAir t = Due.laid(ahead + "s0,0,0;");
      Due.is("C " + c, t.count(2), c);
      Due.is("the last QUARTER of " + c, t.move(0, c - 1), 0);
      Due.is("the first of " + c, t.move(0, 0), 0);
      Due.is("one too many of " + c, t.move(0, c), BAD);
      theQuartersTold(ahead, c);
    }
    theQuartersTold("", 4);
    theQuartersTold("n9;", 4);
    theQuartersTold("c6;c2;", 2);
    theQuartersTold("c2;n3;c6;", 6);
    Due.is("4 without", Due.laid("s0,0,0;").count(2), 4);
    Due.is("the last c", Due.laid("c2;c6;n2;c3;s0,0,0;").count(2), 3);
  }

  static void theQuartersTold(String ahead, int c) {
    for (int q = 0; q < c; q++) {
      taken(ahead + "g" + q + ";");
      taken(ahead + "s0,0," + q + ";");
      taken(ahead + "m0," + q + ",0;");
    }
    for (int q : new int[] {c, c + 1, 10, 99}) {
      for (String item : new String[] {"g" + q + ";", "s0,0," + q + ";", "m0," + q + ",0;"}) {
        TownAir t = new TownAir();
        Due.write(t, ahead + item);
        Due.is("fault of " + ahead + item, t.fault(), ahead.length());
      }
    }
  }

  // "no other ITEM ahead of it but n, c"
  static void quartersAheadOfAll() {
    for (String ok : new String[] {"", "n5;", "c4;", "c4;n5;", "n5;c4;n6;c2;"}) taken(ok + "c4;");
    for (String other : new String[] {"g0;", "s0,0,0;", "m0,0,0;", "w0,0;"}) {
      notTaken(other, "c4;");
      notTaken("n5;c4;" + other, "c4;");
      notTaken(other + "n5;", "c4;");
      taken("c4;" + other + "n5;");
    }
    // also a GUILD in 0, a MAN alone and a NOTCH alone are ahead of it
    notTaken("g0;g0;", "c2;");
    notTaken("w99,99;", "c2;");
    notTaken("m2,3,5;", "c6;");
  }

  // "gQ QUARTER Q has a GUILD"
  static void guilds() {
    for (int c = 2; c <= 6; c++) {
      for (int q = 0; q < c; q++) {
        for (int g = 0; g < c; g++) {
          TownAir t = Due.laid("n2;c" + c + ";g" + g + ";s1,0," + q + ";m0," + q + ",0;");
          Due.is("a CRAFTSMAN in " + q + " of " + c + ", a GUILD in " + g, t.behind(0, 1, 0), q == g ? 0 : 2);
        }
      }
      String all = "";
      for (int g = 0; g < c; g++) all += "g" + g + ";";
      for (int q = 0; q < c; q++) {
        Due.is("a GUILD in each of " + c, Due.laid("n2;c" + c + ";" + all + "s1,0," + q + ";m0,0,1;").behind(0, 2, 0), 3);
      }
    }
  }

  // "(no matter if told once more)"
  static void guildToldOnceMore() {
    for (int times = 1; times <= 5; times++) {
      String told = "g3;".repeat(times);
      Due.is("a GUILD told " + times + " times", Due.laid("n3;" + told + "s1,0,3;m0,3,0;").ends(0), 3);
      Due.is("no other one told " + times + " times", Due.laid("n3;" + told + "s1,0,2;m0,2,0;").ends(0), 1);
    }
    Due.is("told once more at the end", Due.laid("n3;g0;s1,0,0;m0,0,0;g0;").ends(0), 3);
  }

  // "sK,L,Q a SERF of KIND K (0 .. 3), of LORD L (0 to 2), who lives in QUARTER Q; 6 at most, 0, 1, .."
  static void serfs() {
    for (int k = 0; k <= 3; k++) taken("s" + k + ",0,0;");
    for (int l = 0; l <= 2; l++) taken("s0," + l + ",0;");
    for (int n : new int[] {4, 5, 9, 10, 99}) notTaken("s" + n + ",0,0;");
    for (int n : new int[] {3, 4, 9, 10, 99}) notTaken("s0," + n + ",0;");
    String told = "";
    for (int many = 1; many <= 6; many++) {
      told += "s" + many % 4 + "," + many % 3 + "," + many % 4 + ";";
      TownAir t = Due.laid(told);
      Due.is("SERFS", t.count(0), many);
      Due.is("the last one", t.serf(many - 1, 0), many % 4);
      Due.is("no more", t.serf(many, 0), BAD);
    }
    TownAir six = Due.laid(told);
    for (int s = 0; s < 6; s++) {
      Due.is("KIND of " + s, six.serf(s, 0), (s + 1) % 4);
      Due.is("LORD of " + s, six.serf(s, 1), (s + 1) % 3);
      Due.is("QUARTER of " + s, six.serf(s, 2), (s + 1) % 4);
    }
    notTaken(told, "s0,0,0;");
    taken(told + "n9;g0;m0,0,0;w0,0;");
  }

  // "mL,A,B a MAN of LORD L, in QUARTER A on the first DAY, who goes on by B (0 to 5) QUARTERS each DAY; 5 at most, 0, 1, .."
  static void men() {
    for (int l = 0; l <= 2; l++) taken("m" + l + ",0,0;");
    for (int b = 0; b <= 5; b++) taken("m0,0," + b + ";");
    for (int n : new int[] {3, 4, 9, 10, 99}) notTaken("m" + n + ",0,0;");
    for (int n : new int[] {6, 7, 9, 10, 99}) notTaken("m0,0," + n + ";");
    // B is not bound by C
    Due.is("by five in a ring of two", Due.laid("c2;s0,0,0;m0,0,5;").man(0, 2), 5);
    String told = "";
    for (int many = 0; many <= 5; many++) {
      TownAir t = Due.laid("s0,0,0;" + told);
      Due.is("MEN", t.count(1), many);
      Due.is("no more", t.man(many, 0), BAD);
      Due.is("send no more", t.send(many, 0), BAD);
      if (many < 5) told += "m" + many % 3 + "," + many % 4 + "," + (5 - many) + ";";
    }
    TownAir five = Due.laid("s0,0,0;" + told);
    for (int m = 0; m < 5; m++) {
      Due.is("LORD of " + m, five.man(m, 0), m % 3);
      Due.is("first DAY of " + m, five.man(m, 1), m % 4);
      Due.is("B of " + m, five.man(m, 2), 5 - m);
    }
    notTaken(told, "m0,0,0;");
    taken(told + "n9;g0;s0,0,0;w0,0;");
  }

  // "wF,T a NOTCH that proves DAYS F to T (0 to 99, F no more than T); 6 at most, 0, 1, .."
  static void notches() {
    for (String item : new String[] {"w0,0;", "w0,1;", "w0,99;", "w98,99;", "w99,99;", "w50,50;", "w49,50;"}) taken(item);
    for (String item : new String[] {"w1,0;", "w51,50;", "w99,98;", "w99,0;", "w0,100;", "w100,100;", "w100,0;"}) notTaken(item);
    Due.is("one DAY is proved", Due.laid("s0,0,0;w50,50;").proof(50, 50), 1);
    Due.is("not the one ahead", Due.laid("s0,0,0;w50,50;").proof(49, 49), NONE);
    Due.is("not the one behind", Due.laid("s0,0,0;w50,50;").proof(51, 51), NONE);
    String told = "";
    for (int many = 1; many <= 6; many++) {
      told += "w" + 10 * many + "," + (10 * many + 9) + ";";
      TownAir t = Due.laid("s0,0,0;" + told);
      Due.is(many + " NOTCHES", t.proof(10, 10 * many + 9), many);
      Due.is("behind " + many + " NOTCHES", t.gap(10, 99), 10 * many + 10);
    }
    notTaken(told, "w70,79;");
    notTaken("w0,99;".repeat(6), "w0,99;");
    taken(told + "n9;g0;s0,0,0;m0,0,0;");
  }

  // "FAULT: the place of the first letter of the first ITEM that is not so"
  static void placeOfTheFault() {
    String[] good = {"n5;", "c3;", "g2;", "s0,0,2;", "m0,0,5;", "w10,20;", "n60;"};
    String ahead = "";
    for (int i = 0; i <= good.length; i++) {
      TownAir t = new TownAir();
      Due.write(t, ahead);
      Due.is("no FAULT in " + ahead, t.fault(), NONE);
      Due.write(t, "n61;");
      Due.is("FAULT behind " + ahead, t.fault(), ahead.length());
      Due.write(t, "n5;x;n1;");
      Due.is("of several the first, behind " + ahead, t.fault(), ahead.length());
      if (i < good.length) ahead += good[i];
    }
    TownAir empty = new TownAir();
    Due.is("no FAULT in an empty TEXT", empty.fault(), NONE);
    // letter by letter: the ITEM that has not ended is the FAULT
    String text = "n10;c6;s0,0,5;w0,10;";
    int[] place = {0, 0, 0, NONE, 4, 4, NONE, 7, 7, 7, 7, 7, 7, NONE, 14, 14, 14, 14, 14, NONE};
    for (int i = 0; i < text.length(); i++) {
      empty.write(text.charAt(i));
      Due.is("FAULT behind letter " + i + " of " + text, empty.fault(), place[i]);
    }
  }

  // "LAID is a TEXT without FAULT, of a SERF at least (NO else"
  static void laidOfASerfAtLeast() {
    for (String text : new String[] {"", "n5;", "c2;", "g0;", "m0,0,0;", "w0,0;", "n5;c2;g0;m0,0,0;w0,0;"}) {
      TownAir t = new TownAir();
      Due.write(t, text);
      Due.is("no FAULT in " + text, t.fault(), NONE);
      Due.is("lay without a SERF: " + text, t.lay(), NO);
      Due.is("the first town still: " + text, t.count(0), 5);
      Due.is("its N: " + text, t.count(3), 9);
      Due.write(t, "s0,0,0;");
      Due.is("lay with one SERF: " + text, t.lay(), 1);
      t.write(' ');
      Due.is("lay with a FAULT at the end: " + text, t.lay(), NO);
      Due.is("one SERF still: " + text, t.count(0), 1);
    }
    Due.is("six SERFS", Due.laid("s0,0,0;".repeat(6)).count(0), 6);
  }
}
