import java.math.BigInteger;

/** Parts 2 to 4 of the document and the promises: each sentence that names an edge, at that edge. */
public final class EdgeTest {
  static final int BAD = TownAir.BAD, NO = TownAir.NO, FULL = TownAir.FULL, NONE = TownAir.NONE;
  static final int INSIDE = 0, OUTSIDE = 1, TAKEN = 2, FREE = 3;

  public static void main(String[] args) {
    menGoRound();
    sentMenGoRound();
    plainIsMetInHisQuarter();
    craftsmanWhereThereIsAGuild();
    motherNextToHers();
    renamedTheSecondTime();
    metAheadOfStaying();
    freeIfTheseAreN();
    whoIsNotInsideIsNotMet();
    fromOutsideNoDay();
    allInsideAtFirst();
    lastEightCanBeUndone();
    eachActCanBeUndone();
    daysInAll();
    behindNoneTo99();
    endsFromNone();
    liveOfSeveralTheLowest();
    wayOnTheRing();
    wayTheFirstOfAll();
    wayAsManyDaysAsHeLacks();
    huntOfSeveralTheLowest();
    huntAtTheEnds();
    proofAndGapAtTheEnds();
    seenEightAtMost();
    lordsOfWhatIsSeen();
    leapOneDayMore();
    sureInLowestTerms();
    yearByDraws();
    yearQuarterOnTheRing();
    keptTwoAtMost();
    countsEmptyAndFull();
    Due.end();
  }

  static int onRing(int place, int c) {
    return ((place % c) + c) % c;
  }

  static boolean isNext(int q, int r, int c) {
    return onRing(q + 1, c) == r || onRing(q - 1, c) == r;
  }

  // ---- part 2: the ring, a DAY

  // "who goes on by B (0 to 5) QUARTERS each DAY", "in a ring", "3 The MEN go on"
  static void menGoRound() {
    for (int c = 2; c <= 6; c++) {
      for (int b = 0; b <= 5; b++) {
        for (int a = 0; a < c; a++) {
          TownAir t = Due.laid("c" + c + ";s0,0,0;m1," + a + "," + b + ";");
          for (int day = 0; day <= 13; day++) {
            Due.is("man from " + a + " by " + b + " of " + c + " on day " + day, t.man(0, 1), onRing(a + b * day, c));
            t.pass(1);
          }
          t.pass(60);
          Due.is("man from " + a + " by " + b + " of " + c + " behind 74", t.man(0, 1), onRing(a + b * 74, c));
        }
      }
    }
  }

  static void sentMenGoRound() {
    for (int c = 2; c <= 6; c++) {
      TownAir t = Due.laid("c" + c + ";s0,0,0;m1,0,5;");
      int at = 0;
      for (int q = c - 1; q >= 0; q--) {
        Due.is("send to " + q + " of " + c, t.send(0, q), at);
        Due.is("sent to " + q + " of " + c, t.man(0, 1), q);
        t.pass(1);
        at = onRing(q + 5, c);
        Due.is("on from " + q + " of " + c, t.man(0, 1), at);
      }
      Due.is("send beyond the last of " + c, t.send(0, c), BAD);
    }
  }

  // "MET by the MEN of his LORD who are in his QUARTER: a PLAIN one is TAKEN, if there is any"
  static void plainIsMetInHisQuarter() {
    for (int c = 2; c <= 6; c++) {
      for (int q = 0; q < c; q++) {
        for (int a = 0; a < c; a++) {
          for (int lord = 0; lord < 3; lord++) {
            TownAir t = Due.laid("c" + c + ";g" + q + ";s0," + lord + "," + q + ";m1," + a + ",0;");
            boolean met = lord == 1 && a == q;
            Due.is("plain in " + q + ", man in " + a + " of " + c, t.serf(0, 6), met ? 1 : 0);
            Due.is("plain in " + q + ", man in " + a + " of " + c + ", behind one", t.behind(0, 1, 0), met ? TAKEN : INSIDE);
          }
        }
      }
    }
    for (int men = 0; men <= 5; men++) {
      TownAir t = Due.laid("s0,2,3;" + "m2,3,1;".repeat(men));
      Due.is("as many MEN: " + men, t.serf(0, 6), men);
      Due.is("pass with as many: " + men, t.pass(1), men == 0 ? 0 : 1);
    }
  }

  // "a CRAFTSMAN not where there is a GUILD"
  static void craftsmanWhereThereIsAGuild() {
    TownAir t = Due.laid("n9;c3;g2;s1,0,2;m0,2,0;m0,2,0;");
    Due.is("would be met as PLAIN", t.serf(0, 6), 2);
    Due.is("not taken where there is a GUILD", t.ends(0), 9);
    t.pass(8);
    Due.is("stayed", t.serf(0, 4), 8);
    Due.is("not met as a RENAMED one", t.serf(0, 5), 0);
    t.move(0, 1);
    Due.is("taken where there is none", Due.laid("n9;c3;g2;s1,0,1;m0,1,0;").ends(0), 1);
    t.send(0, 1);
    Due.is("taken on the last DAY", t.pass(1), 1);
    // a GUILD is for no other KIND
    for (int kind = 0; kind < 4; kind++) {
      TownAir u = Due.laid("n2;g0;s" + kind + ",0,0;m0,0,0;");
      Due.is("KIND " + kind + " where there is a GUILD", u.behind(0, 2, 0), kind == 1 ? FREE : TAKEN);
    }
  }

  // "a MOTHER also if any is in a QUARTER next to hers"
  static void motherNextToHers() {
    for (int c = 2; c <= 6; c++) {
      for (int q = 0; q < c; q++) {
        for (int a = 0; a < c; a++) {
          boolean found = a == q || isNext(a, q, c);
          String name = " in " + q + ", man in " + a + " of " + c;
          TownAir t = Due.laid("n2;c" + c + ";s2,0," + q + ";s0,0," + q + ";s2,1," + q + ";m0," + a + ",0;");
          Due.is("mother" + name, t.behind(0, 1, 0), found ? TAKEN : INSIDE);
          Due.is("plain" + name, t.behind(1, 1, 0), a == q ? TAKEN : INSIDE);
          Due.is("mother of another lord" + name, t.behind(2, 1, 0), INSIDE);
          Due.is("MEN who would meet a mother as PLAIN" + name, t.serf(0, 6), a == q ? 1 : 0);
        }
      }
    }
  }

  // "a RENAMED one the second time he is MET (on another DAY)"
  static void renamedTheSecondTime() {
    for (int men = 1; men <= 5; men++) {
      TownAir t = Due.laid("n9;c6;s3,0,0;" + "m0,0,0;".repeat(men));
      Due.is("met on one DAY by " + men, t.pass(1), 0);
      Due.is("met once by " + men, t.serf(0, 5), 1);
      Due.is("stayed, met once by " + men, t.serf(0, 4), 1);
      Due.is("met on another DAY by " + men, t.pass(1), 1);
      Due.is("met twice by " + men, t.serf(0, 5), 2);
      Due.is("stayed, met twice by " + men, t.serf(0, 4), 1);
      Due.is("met no more", t.pass(5), 0);
      Due.is("met twice still", t.serf(0, 5), 2);
    }
    // MET by one MAN, then by another one, in other QUARTERS, with days outside between
    TownAir t = Due.laid("n9;c6;s3,0,0;m0,0,0;m0,3,0;");
    t.pass(1);
    t.leave(0);
    t.pass(3);
    Due.is("not met outside", t.serf(0, 5), 1);
    t.move(0, 3);
    Due.is("the second time", t.pass(1), 1);
    // MET for the first time on the last DAY: FREE all the same
    TownAir last = Due.laid("n2;c6;s3,0,1;m0,0,1;");
    last.pass(2);
    Due.is("met first on the last DAY", last.serf(0, 3), FREE);
    Due.is("met once", last.serf(0, 5), 1);
    // next to his QUARTER, or another LORD's: not MET
    TownAir next = Due.laid("n5;c4;s3,0,0;m0,1,0;m0,3,0;m1,0,0;");
    next.pass(4);
    Due.is("not met", next.serf(0, 5), 0);
  }

  // "1 each SERF .. is MET .. 2 Who is INSIDE still has STAYED one DAY more"
  static void metAheadOfStaying() {
    for (int n = 2; n <= 6; n++) {
      // the man comes on DAY n, the last that is wanted, or one DAY later
      TownAir on = Due.laid("n" + n + ";c6;s0,0,5;m0," + onRing(5 - (n - 1), 6) + ",1;");
      Due.is("taken on DAY " + n, on.behind(0, n, 0), TAKEN);
      Due.is("stayed, taken on DAY " + n, on.behind(0, 99, 1), n - 1);
      TownAir late = Due.laid("n" + n + ";c6;s0,0,5;m0," + onRing(5 - n, 6) + ",1;");
      Due.is("the man comes behind DAY " + n, late.behind(0, n, 0), n == 6 ? TAKEN : FREE);
      Due.is("FREE stays FREE, " + n, late.behind(0, 99, 0), n == 6 ? TAKEN : FREE);
    }
    // the MEN go on behind the DAY, not ahead of it
    TownAir t = Due.laid("n5;c6;s0,0,0;s0,0,1;m0,0,1;");
    Due.is("on the first DAY", t.ends(0), 1);
    Due.is("on the second DAY", t.ends(1), 2);
  }

  // "and is FREE, if these are N"
  static void freeIfTheseAreN() {
    for (int n : new int[] {2, 3, 59, 60}) {
      TownAir t = Due.laid("n" + n + ";s0,0,0;");
      if (n > 1) t.pass(n - 1);
      Due.is("one less than " + n, t.serf(0, 3), INSIDE);
      Due.is("stayed one less than " + n, t.serf(0, 4), n - 1);
      Due.is("still in his QUARTER", t.serf(0, 2), 0);
      t.pass(1);
      Due.is("free behind " + n, t.serf(0, 3), FREE);
      Due.is("stayed " + n, t.serf(0, 4), n);
      Due.is("no QUARTER", t.serf(0, 2), NONE);
      t.pass(60);
      Due.is("stayed no more than " + n, t.serf(0, 4), n);
    }
  }

  static void whoIsNotInsideIsNotMet() {
    TownAir t = Due.laid("n2;c2;s0,0,0;s0,1,1;m0,0,0;");
    t.leave(0);
    Due.is("outside, nobody is met", t.pass(5), 0);
    Due.is("outside still", t.serf(0, 3), OUTSIDE);
    Due.is("the other one is free", t.serf(1, 3), FREE);
    t.move(0, 0);
    Due.is("inside again, taken", t.pass(1), 1);
    Due.is("taken once", t.pass(60), 0);
    Due.is("taken in all", t.count(5), 1);
    Due.is("free in all", t.count(6), 1);
  }

  // "moves to a QUARTER (from OUTSIDE he has STAYED no DAY)"
  static void fromOutsideNoDay() {
    TownAir t = Due.laid("n4;c6;s0,0,0;");
    t.pass(3);
    Due.is("INSIDE he keeps his DAYS", t.move(0, 5), 3);
    Due.is("had stayed", t.leave(0), 3);
    Due.is("from OUTSIDE none", t.move(0, 5), 0);
    Due.is("stayed none", t.serf(0, 4), 0);
    Due.is("lacks all", t.ends(0), 4);
    Due.is("leave with none", t.leave(0), 0);
    Due.is("to where he lived", t.move(0, 5), 0);
  }

  // promise 5: "DAY 0, all INSIDE, nothing SEEN, UNDONE, KEPT"
  static void allInsideAtFirst() {
    TownAir t = Due.laid("n2;c6;s0,0,0;s1,0,1;s2,1,5;s3,2,4;s0,2,2;s3,0,0;m0,0,0;m1,0,5;");
    t.leave(4);
    t.pass(2);
    t.send(0, 5);
    t.keep();
    t.keep();
    for (int i = 0; i < 8; i++) t.seen(0, 1, 0);
    Due.is("lay", t.lay(), 6);
    int[] homes = {0, 1, 5, 4, 2, 0};
    for (int s = 0; s < 6; s++) {
      Due.is("home of " + s, t.serf(s, 2), homes[s]);
      for (int w = 3; w <= 5; w++) Due.is("serf " + s + " " + w, t.serf(s, w), 0);
    }
    Due.is("man 0", t.man(0, 1), 0);
    Due.is("man 1", t.man(1, 1), 0);
    for (int i = 4; i <= 9; i++) Due.is("count " + i, t.count(i), 0);
    Due.is("undo", t.undo(), NO);
    Due.is("back", t.back(), NO);
    Due.is("forget", t.forget(), 0);
    Due.is("keep two again", t.keep() + t.keep(), 3);
    for (int i = 1; i <= 8; i++) Due.is("seen again", t.seen(5, 99, 3), i);
  }

  // "UNDONE is the latest of these (the last 8 can be)"
  static void lastEightCanBeUndone() {
    for (int acts = 0; acts <= 20; acts++) {
      TownAir t = Due.laid("n60;c6;s0,0,0;m1,0,1;");
      for (int i = 0; i < acts; i++) t.pass(i + 1);
      int can = Math.min(acts, 8);
      Due.is("can be undone of " + acts, t.count(8), can);
      for (int left = can - 1; left >= 0; left--) {
        Due.is("undo of " + acts, t.undo(), left);
        int still = acts - can + left;
        Due.is("DAYS, " + left + " left of " + acts, t.count(4), still * (still + 1) / 2);
      }
      Due.is("undo no more of " + acts, t.undo(), NO);
      t.send(0, 3);
      Due.is("can be again of " + acts, t.count(8), 1);
      Due.is("undo again of " + acts, t.undo(), 0);
    }
    // undone, done anew, beyond 8 once more
    TownAir t = Due.laid("n60;c6;s0,0,0;m1,0,0;");
    for (int i = 0; i < 12; i++) t.send(0, i % 6);
    for (int i = 0; i < 5; i++) t.undo();
    for (int i = 0; i < 7; i++) t.send(0, (i + 1) % 6);
    Due.is("8 again", t.count(8), 8);
    int[] back = {0, 5, 4, 3, 2, 1, 0, 5};
    for (int i = 0; i < 8; i++) {
      Due.is("undo anew", t.undo(), 7 - i);
      Due.is("man anew " + i, t.man(0, 1), back[i]);
    }
    Due.is("undo no more anew", t.undo(), NO);
  }

  static void eachActCanBeUndone() {
    TownAir t = Due.laid("n3;c4;s3,0,1;s0,1,2;m0,1,1;m1,0,2;");
    Due.is("move", t.move(0, 2), 0);
    Due.is("leave", t.leave(1), 0);
    Due.is("send", t.send(0, 2), 1);
    Due.is("pass", t.pass(2), 0);
    Due.is("four acts", t.count(8), 4);
    Due.is("undo pass", t.undo(), 3);
    int[] ahead = {2, 0, 0, 0};
    for (int w = 2; w <= 5; w++) Due.is("undone pass, serf " + w, t.serf(0, w), ahead[w - 2]);
    Due.is("undone pass, man 0", t.man(0, 1), 2);
    Due.is("undone pass, man 1", t.man(1, 1), 0);
    Due.is("undone pass, DAYS", t.count(4), 0);
    Due.is("undo send", t.undo(), 2);
    Due.is("undone send", t.man(0, 1), 1);
    Due.is("undo leave", t.undo(), 1);
    Due.is("undone leave", t.serf(1, 2), 2);
    Due.is("undo move", t.undo(), 0);
    Due.is("undone move", t.serf(0, 2), 1);
    // one TAKEN, one FREE: both undone
    t.pass(3);
    Due.is("taken", t.count(5), 1);
    Due.is("free", t.count(6), 1);
    t.undo();
    Due.is("none taken", t.count(5), 0);
    Due.is("none free", t.count(6), 0);
  }

  static void passInAll(TownAir t, int days) {
    for (int left = days; left > 0; left -= 60) t.pass(Math.min(60, left));
  }

  // promise 11: "n (1 to 60) DAYS go by", "NO: more than 999 in all"
  static void daysInAll() {
    for (int n : new int[] {1, 60}) {
      TownAir t = Due.laid("n60;s0,0,0;");
      Due.is("pass " + n, t.pass(n), 0);
      Due.is("DAYS " + n, t.count(4), n);
    }
    for (int ahead = 939; ahead <= 999; ahead++) {
      TownAir t = Due.laid("s0,0,0;");
      passInAll(t, ahead);
      int left = 999 - ahead;
      if (left < 60) Due.is("to 1000 from " + ahead, t.pass(left + 1), NO);
      Due.is("not gone by", t.count(4), ahead);
      if (left > 0) Due.is("to 999 from " + ahead, t.pass(left), 0);
      Due.is("999 in all", t.count(4), 999);
      Due.is("no DAY more", t.pass(1), NO);
      t.undo();
      if (left > 0) Due.is("undone, again to 999", t.pass(left), 0);
    }
    // what comes is asked on the last DAY too
    TownAir t = Due.laid("n9;c2;s0,0,0;s0,0,1;m0,1,0;");
    t.leave(0);
    passInAll(t, 999);
    t.move(0, 0);
    Due.is("behind 99 on the last DAY", t.behind(0, 99, 0), FREE);
    Due.is("ends on the last DAY", t.ends(0), 9);
    Due.is("live on the last DAY", t.live(0, 1), 9);
    Due.is("way on the last DAY", t.way(0, 9), 0);
    Due.is("hunt on the last DAY", t.hunt(0, 1), 2);
    Due.is("leap on the last DAY", t.leap(9), 1);
    Due.is("year on the last DAY", t.year(0, 60, 0) >= 1 ? 1 : 0, 1);
    Due.is("DAYS are as they were", t.count(4), 999);
  }

  // ---- part 3: what comes

  // "BEHIND n (0 to 99) DAYS"
  static void behindNoneTo99() {
    TownAir t = new TownAir();
    t.leave(4);
    t.pass(1);
    for (int s = 0; s < 5; s++) {
      Due.is("behind 0, how " + s, t.behind(s, 0, 0), t.serf(s, 3));
      Due.is("behind 0, stayed " + s, t.behind(s, 0, 1), t.serf(s, 4));
      Due.is("behind 0, taken " + s, t.behind(s, 0, 2), t.count(5));
    }
    int[] how = {TAKEN, FREE, TAKEN, FREE, OUTSIDE}, stayed = {1, 9, 1, 9, 0};
    for (int s = 0; s < 5; s++) {
      Due.is("behind 99, how " + s, t.behind(s, 99, 0), how[s]);
      Due.is("behind 99, stayed " + s, t.behind(s, 99, 1), stayed[s]);
      Due.is("behind 99, taken " + s, t.behind(s, 99, 2), 2);
    }
    // what is told of it comes so
    for (int n = 1; n <= 12; n++) {
      TownAir gone = new TownAir();
      gone.leave(4);
      gone.pass(1);
      int taken = gone.behind(0, n, 2);
      int[] told = new int[5];
      for (int s = 0; s < 5; s++) told[s] = gone.behind(s, n, 0);
      gone.pass(n);
      Due.is("taken behind " + n, gone.count(5), taken);
      for (int s = 0; s < 5; s++) Due.is("how behind " + n, gone.serf(s, 3), told[s]);
    }
  }

  // "ENDS: behind how many DAYS (0 to 99) he is TAKEN or FREE first; none"
  static void endsFromNone() {
    TownAir t = Due.laid("n60;c2;s0,0,0;s0,1,0;m1,0,0;");
    Due.is("ends 60", t.ends(0), 60);
    Due.is("ends 1", t.ends(1), 1);
    t.pass(1);
    Due.is("ends 0, TAKEN", t.ends(1), 0);
    Due.is("ends 59", t.ends(0), 59);
    t.pass(58);
    Due.is("ends 1, FREE behind one", t.ends(0), 1);
    t.pass(1);
    Due.is("ends 0, FREE", t.ends(0), 0);
    t.lay();
    t.leave(0);
    Due.is("ends never, OUTSIDE", t.ends(0), NONE);
    t.move(0, 1);
    Due.is("ends 60 from OUTSIDE", t.ends(0), 60);
    Due.is("a RENAMED one ends late", Due.laid("n60;c6;s3,0,5;m0,0,1;").ends(0), 12);
  }

  // "LIVE: the QUARTER, moved to which now (if he does not live there) .. of several the lowest .. none"
  static void liveOfSeveralTheLowest() {
    for (int c = 2; c <= 6; c++) {
      for (int home = 0; home < c; home++) {
        // as many MEN as leave one QUARTER, the k-th, and all above it
        for (int k = 0; k < c; k++) {
          String men = "";
          for (int q = 0; q < k; q++) men += "m0," + q + ",0;";
          TownAir t = Due.laid("n60;c" + c + ";s0,0," + home + ";" + men);
          Due.is("the lowest of " + c + " behind " + k + " MEN", t.live(0, 0), k);
          Due.is("behind 60", t.live(0, 1), 60);
          t.leave(0);
          Due.is("the lowest from OUTSIDE", t.live(0, 0), k);
          Due.is("behind 60 from OUTSIDE", t.live(0, 1), 60);
        }
      }
    }
    TownAir none = Due.laid("c2;s0,0,0;s3,0,1;m0,0,1;");
    for (int s = 0; s < 2; s++) for (int w = 0; w < 2; w++) Due.is("nowhere " + s + " " + w, none.live(s, w), NONE);
    TownAir one = Due.laid("n2;s0,0,3;");
    one.pass(1);
    Due.is("where he lacks one", one.live(0, 0), 0);
    Due.is("behind one", one.live(0, 1), 1);
    TownAir home = Due.laid("n9;c3;s0,0,2;m0,0,0;m0,1,0;");
    home.pass(4);
    Due.is("where he lives", home.live(0, 0), 2);
    Due.is("behind the DAYS that he lacks", home.live(0, 1), 5);
  }

  // "WAY: .. he stays in his QUARTER or goes to one next to it", "in a ring"
  static void wayOnTheRing() {
    for (int c = 2; c <= 6; c++) {
      for (int home = 0; home < c; home++) {
        for (int open = 0; open < c; open++) {
          String men = "";
          for (int q = 0; q < c; q++) if (q != open) men += "m0," + q + ",0;";
          TownAir t = Due.laid("n3;c" + c + ";s0,0," + home + ";" + men);
          boolean near = home == open || isNext(home, open, c);
          for (int k = 1; k <= 3; k++) Due.is("way from " + home + " to " + open + " of " + c, t.way(0, k), near ? open : NONE);
        }
      }
    }
  }

  // "of all such ways the first (by the QUARTER on the first DAY, the lowest, then on the second, ..)"
  static void wayTheFirstOfAll() {
    for (int c = 2; c <= 6; c++) {
      for (int kind = 0; kind < 4; kind++) {
        for (int home = 0; home < c; home++) {
          for (int b = 0; b <= 5; b++) {
            wayByAllWays(c, kind, home, b);
          }
        }
      }
    }
  }

  static void wayByAllWays(int c, int kind, int home, int b) {
    int days = 4;
    int[][] men = {{0, b}, {c - 1, 5 - b}, {1, 1}};
    String told = "";
    for (int[] man : men) told += "m0," + man[0] + "," + man[1] + ";";
    TownAir t = Due.laid("n" + days + ";c" + c + ";g1;s" + kind + ",0," + home + ";" + told);
    int[] best = firstWay(c, kind, home, men, days);
    for (int k = 1; k <= days; k++) {
      Due.is("way " + k + " of " + c + " kind " + kind + " from " + home + " by " + b, t.way(0, k), best == null ? NONE : best[k - 1]);
    }
    Due.is("not so many", t.way(0, days + 1), NONE);
  }

  /** By trying all that there are, in their order. */
  static int[] firstWay(int c, int kind, int home, int[][] men, int days) {
    int all = 1;
    for (int d = 0; d < days; d++) all *= c;
    for (int number = 0; number < all; number++) {
      int[] way = new int[days];
      for (int d = days - 1, rest = number; d >= 0; d--, rest /= c) way[d] = rest % c;
      if (isFreeOn(way, c, kind, home, men)) return way;
    }
    return null;
  }

  static boolean isFreeOn(int[] way, int c, int kind, int home, int[][] men) {
    int at = home, met = 0;
    for (int d = 0; d < way.length; d++) {
      if (way[d] != at && !isNext(at, way[d], c)) return false;
      at = way[d];
      boolean here = false, near = false;
      for (int[] man : men) {
        int place = onRing(man[0] + man[1] * d, c);
        here |= place == at;
        near |= isNext(place, at, c);
      }
      boolean found = kind == 1 ? here && at != 1 : kind == 2 ? here || near : here;
      if (found) met++;
    }
    return met < (kind == 3 ? 2 : 1);
  }

  // "behind as many DAYS as he lacks", "the k-th (1 to 60; NONE: there are not so many)"
  static void wayAsManyDaysAsHeLacks() {
    for (int n : new int[] {2, 3, 59, 60}) {
      TownAir t = Due.laid("n" + n + ";c6;s0,0,3;");
      for (int stayed = 0; stayed < n; stayed += n > 10 ? 29 : 1) {
        int lacks = n - t.serf(0, 4);
        Due.is("the last of " + n + " lacking " + lacks, t.way(0, lacks), Math.max(0, 3 - lacks));
        if (lacks < 60) Due.is("one more of " + n, t.way(0, lacks + 1), NONE);
        if (lacks < 60) Due.is("the 60th of " + n, t.way(0, 60), NONE);
        Due.is("the 61st of " + n, t.way(0, 61), BAD);
        t.pass(n > 10 ? 29 : 1);
      }
    }
    // the last DAY alone is left, and a MAN is there
    TownAir t = Due.laid("n2;c2;s0,0,0;m0,1,1;");
    t.pass(1);
    Due.is("the last DAY", t.way(0, 1), 1);
    Due.is("behind the last DAY", t.way(0, 2), NONE);
  }

  // "HUNT: .. (10 times QUARTER and B) .. most SERFS .. of several the lowest; how many then"
  static void huntOfSeveralTheLowest() {
    String[] towns = {"n5;c2;s0,0,1;s2,0,0;s3,0,1;", "n7;c3;g1;s0,0,1;s1,0,1;s3,0,2;s2,1,0;m1,2,2;", "n2;c4;s0,0,1;s0,0,2;s0,0,3;s3,0,0;",
        "n3;c5;s3,0,4;s3,0,2;s0,0,0;s1,0,1;g1;m0,0,5;", "n2;c6;s0,0,5;s0,0,3;s0,0,1;s0,1,4;s2,2,2;s1,2,0;g0;m2,0,3;m1,1,4;",
        "n60;c6;s3,0,5;s3,1,4;s3,2,3;m0,0,0;m1,0,1;m2,0,2;", "n4;c6;s0,2,0;s0,2,5;s3,2,4;s3,2,1;"};
    for (String town : towns) {
      TownAir t = Due.laid(town);
      for (int lord = 0; lord < 3; lord++) {
        int most = -1, where = -1;
        for (int q = 0; q < t.count(2); q++) {
          for (int b = 0; b <= 5; b++) {
            int taken = Due.laid(town + "m" + lord + "," + q + "," + b + ";").behind(0, 60, 2);
            if (taken > most) {
              most = taken;
              where = 10 * q + b;
            }
          }
        }
        Due.is("hunt where, " + lord + " in " + town, t.hunt(lord, 0), where);
        Due.is("hunt how many, " + lord + " in " + town, t.hunt(lord, 1), most);
      }
    }
  }

  /** Serf 0 lacks one DAY, serf 1 two: one MAN takes both if he is with 0 on the first DAY, with 1 on the second. */
  static void huntAtTheEnds() {
    for (int first = 0; first < 6; first++) {
      for (int second = 0; second < 6; second++) {
        TownAir t = Due.laid("n3;c6;s0,0," + first + ";s0,0," + second + ";");
        t.leave(1);
        t.pass(1);
        t.move(1, second);
        t.pass(1);
        Due.is("hunt " + first + ", " + second, t.hunt(0, 0), 10 * first + onRing(second - first, 6));
        Due.is("hunt " + first + ", " + second + " how many", t.hunt(0, 1), 2);
      }
    }
    TownAir nobody = Due.laid("s0,0,0;");
    for (int lord = 1; lord < 3; lord++) {
      Due.is("nobody to hunt", nobody.hunt(lord, 0), 0);
      Due.is("nobody to hunt, how many", nobody.hunt(lord, 1), 0);
    }
    TownAir all = Due.laid("c2;" + "s0,2,1;".repeat(6) + "m0,0,0;".repeat(5));
    Due.is("a sixth MAN for six", all.hunt(2, 1), 6);
    Due.is("a sixth MAN, where", all.hunt(2, 0), 1);
    Due.is("five MEN still", all.count(1), 5);
    all.pass(20);
    Due.is("all FREE", all.hunt(2, 1), 0);
    Due.is("all FREE, where", all.hunt(2, 0), 0);
  }

  // "PROOF of DAYS f to t (0 to 99): the fewest NOTCHES .. none. GAP of these: the first DAY that no NOTCH proves; none"
  static void proofAndGapAtTheEnds() {
    int[][][] sets = {{}, {{0, 99}}, {{0, 0}, {99, 99}}, {{0, 98}, {1, 99}}, {{0, 49}, {50, 99}}, {{0, 49}, {51, 99}},
        {{0, 20}, {15, 60}, {18, 40}, {41, 70}, {61, 99}, {0, 14}}, {{90, 99}, {80, 89}, {70, 79}, {60, 69}, {50, 59}, {40, 49}},
        {{10, 30}, {10, 20}, {20, 30}, {5, 15}, {25, 35}, {31, 50}}};
    for (int[][] set : sets) {
      String told = "s0,0,0;";
      for (int[] w : set) told += "w" + w[0] + "," + w[1] + ";";
      TownAir t = null;
      int asked = 0;
      for (int f = 0; f <= 99; f++) {
        for (int to = f; to <= 99; to += f == 0 || f == 99 || to >= 98 ? 1 : 7) {
          if (asked++ % 200 == 0) t = Due.laid(told);
          Due.is("proof " + f + " " + to + " of " + told, t.proof(f, to), fewest(set, f, to));
          Due.is("gap " + f + " " + to + " of " + told, t.gap(f, to), firstGap(set, f, to));
        }
      }
    }
  }

  static int fewest(int[][] set, int f, int t) {
    int best = NONE;
    for (int some = 0; some < 1 << set.length; some++) {
      boolean all = true;
      for (int day = f; day <= t && all; day++) {
        boolean proved = false;
        for (int i = 0; i < set.length; i++) proved |= (some >> i & 1) == 1 && set[i][0] <= day && day <= set[i][1];
        all = proved;
      }
      if (all && (best == NONE || Integer.bitCount(some) < best)) best = Integer.bitCount(some);
    }
    return best;
  }

  static int firstGap(int[][] set, int f, int t) {
    for (int day = f; day <= t; day++) {
      boolean proved = false;
      for (int[] w : set) proved |= w[0] <= day && day <= w[1];
      if (!proved) return day;
    }
    return NONE;
  }

  // ---- part 4: what was seen, chances, years, kept

  // "SEEN (8 at most) is that a SERF is so (0 to 3) behind n (1 to 99) DAYS"
  static void seenEightAtMost() {
    for (int n : new int[] {1, 99}) for (int how = 0; how <= 3; how++) Due.is("seen " + n + " " + how, new TownAir().seen(4, n, how), 1);
    TownAir t = new TownAir();
    for (int i = 1; i <= 8; i++) {
      Due.is("seen, how many", t.seen(0, 1, 0), i);
      Due.is("count of what is seen", t.count(7), i);
    }
    Due.is("a ninth", t.seen(0, 1, 0), FULL);
    Due.is("forget eight", t.forget(), 8);
    Due.is("forget none", t.forget(), 0);
    Due.is("the first again", t.seen(0, 1, 0), 1);
    // the eighth counts as the first does
    TownAir last = new TownAir();
    for (int i = 0; i < 7; i++) last.seen(1, 1, 0);
    last.seen(0, 1, 2);
    Due.is("the eighth", last.lords(0), 2);
  }

  // "counted from the first, as the TEXT tells, nothing done. LORDS of a SERF: LORDS (bits)"
  static void lordsOfWhatIsSeen() {
    // of LORD 0 he is TAKEN on the first DAY, of LORD 1 on the fourth, of LORD 2 FREE behind six
    String town = "n6;c4;s0,0,0;m0,0,0;m1,1,1;";
    for (int n = 1; n <= 99; n++) {
      int[] due = {0, 0, 0, 0};
      due[n >= 1 ? TAKEN : INSIDE] |= 1;
      due[n >= 4 ? TAKEN : INSIDE] |= 2;
      due[n >= 6 ? FREE : INSIDE] |= 4;
      for (int how = 0; how <= 3; how++) {
        TownAir t = Due.laid(town);
        t.seen(0, n, how);
        Due.is("lords, seen " + how + " behind " + n, t.lords(0), due[how]);
      }
    }
    TownAir none = Due.laid(town);
    Due.is("nothing seen: each LORD", none.lords(0), 7);
    none.seen(0, 1, 0);
    none.seen(0, 1, 2);
    Due.is("both cannot be", none.lords(0), 0);
    Due.is("undo leaves what is seen", none.undo(), NO);
    // nothing done: acts, DAYS and what is KEPT change nothing
    TownAir done = Due.laid(town);
    done.seen(0, 4, 2);
    done.keep();
    done.leave(0);
    done.send(1, 3);
    done.pass(9);
    Due.is("as the TEXT tells", done.lords(0), 3);
    done.back();
    Due.is("as the TEXT tells behind back", done.lords(0), 3);
    // THE TEXT that is written is not the one that is LAID
    done.wipe();
    Due.write(done, "s0,0,0;");
    Due.is("as what is LAID tells", done.lords(0), 3);
  }

  // "LEAP for n (1 to 99) DAYS: .. would not be, were one DAY more wanted"
  static void leapOneDayMore() {
    for (int n : new int[] {2, 3, 59, 60}) {
      TownAir t = Due.laid("n" + n + ";" + "s0,0,0;".repeat(6));
      for (int days = 1; days <= 99; days++) Due.is("leap " + days + " of " + n, t.leap(days), days == n ? 63 : 0);
      t.pass(1);
      Due.is("leap from now of " + n, t.leap(n - 1), 63);
      Due.is("leap ahead of now of " + n, t.leap(n), 0);
      t.pass(n - 1);
      for (int days : new int[] {1, 2, 99}) Due.is("all FREE of " + n, t.leap(days), 0);
    }
    // TAKEN on the DAY more: never FREE then
    TownAir late = Due.laid("n3;c4;s0,0,3;m0,0,1;");
    for (int days = 1; days <= 99; days++) Due.is("leap, taken " + days, late.leap(days), days >= 3 ? 1 : 0);
    // each bit is its SERF's
    for (int s = 0; s < 6; s++) {
      TownAir t = Due.laid("n5;" + "s0,0,0;".repeat(s) + "s0,1,1;" + "s0,0,0;".repeat(5 - s) + "m0,0,0;");
      Due.is("bit " + s, t.leap(5), 1 << s);
    }
  }

  // "SURE for d (0 to 8) DAYS: .. x (0 to 10) of ten .. in lowest terms; TWICE: how likely on one at most"
  static void sureInLowestTerms() {
    TownAir t = new TownAir();
    for (int d = 0; d <= 8; d++) {
      for (int x = 0; x <= 10; x++) {
        for (int twice = 0; twice <= 1; twice++) {
          // over all rows of d DAYS, each MET or not, that fit
          BigInteger above = BigInteger.ZERO;
          for (int row = 0; row < 1 << d; row++) {
            int met = Integer.bitCount(row);
            if (met > twice) continue;
            above = above.add(BigInteger.valueOf(x).pow(met).multiply(BigInteger.valueOf(10 - x).pow(d - met)));
          }
          BigInteger below = BigInteger.TEN.pow(d), shared = above.gcd(below);
          Due.is("sure above " + d + " " + x + " " + twice, t.sure(d, x, twice, 0), above.divide(shared).intValueExact());
          Due.is("sure below " + d + " " + x + " " + twice, t.sure(d, x, twice, 1), below.divide(shared).intValueExact());
        }
      }
    }
  }

  // "A YEAR by z (0 to 9999) of n (1 to 60) DAYS from now on"
  static void yearByDraws() {
    String[] towns = {"n2;c2;s0,0,0;s3,1,1;m0,0,1;m1,0,1;", "n60;c6;s0,0,5;s1,0,4;s2,1,3;s3,1,2;s0,2,1;s3,2,0;g4;m0,0,1;m1,5,5;m2,3,2;m0,2,0;m2,2,3;",
        "n9;c5;s0,0,0;m0,0,2;"};
    for (String town : towns) {
      for (int z : new int[] {0, 1, 2, 13, 9998, 9999}) {
        for (int n : new int[] {1, 2, 59, 60}) {
          TownAir hand = Due.laid(town), asked = Due.laid(town);
          int[] due = PromiseTest.yearByHand(hand, z, n);
          Due.is("year " + z + " of " + n + " taken in " + town, asked.year(z, n, 0), due[0]);
          Due.is("year " + z + " of " + n + " free in " + town, asked.year(z, n, 1), due[1]);
        }
      }
    }
    // by 0, DRAW of the first DAY is 0: SERF 0 moves to QUARTER 0
    Due.is("the first DAY is 0", Due.laid("c6;s0,0,3;m0,0,0;").year(0, 1, 0), 1);
    Due.is("who is TAKEN already is counted", takenAndFree().year(0, 1, 0), 1);
    Due.is("who is FREE already is counted", takenAndFree().year(0, 1, 1), 1);
    // neither is moved again
    Due.is("TAKEN and FREE stay so", takenAndFree().year(9999, 60, 0) + takenAndFree().year(9999, 60, 1), 2);
  }

  static TownAir takenAndFree() {
    TownAir t = Due.laid("n2;s0,0,1;s0,0,0;m0,1,0;");
    t.pass(2);
    return t;
  }

  // "to QUARTER (DRAW by 8, cut) modulo C"
  static void yearQuarterOnTheRing() {
    for (int c = 2; c <= 6; c++) {
      for (int z = 0; z < 120; z++) {
        long x = 7919L * z + 1;
        int draw = (int) (x * x % 65521 / 2);
        if (draw / 64 % 3 != 0) continue;
        int q = draw / 8 % c;
        // one SERF, so that it is he; one MAN who waits where he comes to, or one further on
        Due.is("moved to " + q + " of " + c + " by " + z, Due.laid("c" + c + ";s0,0,0;m0," + q + ",0;").year(z, 1, 0), 1);
        Due.is("not beside " + q + " of " + c + " by " + z, Due.laid("c" + c + ";s0,0,0;m0," + onRing(q + 1, c) + ",0;").year(z, 1, 0), 0);
      }
    }
  }

  // "KEPT is all as it stands, but what is SEEN: 2 at most"; promise 27: "As KEPT last .. nothing is UNDONE then"
  static void keptTwoAtMost() {
    TownAir t = Due.laid("n9;c6;s3,0,0;s0,1,1;m0,0,1;m1,1,0;");
    Due.is("back to none", t.back(), NO);
    Due.is("keep one", t.keep(), 1);
    t.pass(1);
    t.leave(0);
    Due.is("keep two", t.keep(), 2);
    t.send(0, 4);
    t.move(0, 3);
    t.pass(60);
    Due.is("keep three", t.keep(), FULL);
    Due.is("back to the last", t.back(), 1);
    int[] last = {3, 0, NONE, OUTSIDE, 0, 1, 0}, first = {3, 0, 0, INSIDE, 0, 0, 1};
    for (int w = 0; w < 7; w++) Due.is("as kept last " + w, t.serf(0, w), last[w]);
    int[] counts = {2, 2, 6, 9, 1, 1, 0, 0, 0, 1};
    for (int i = 0; i < counts.length; i++) Due.is("count as kept last " + i, t.count(i), counts[i]);
    Due.is("man as kept last", t.man(0, 1), 1);
    Due.is("nothing is undone", t.undo(), NO);
    Due.is("keep two once more", t.keep(), 2);
    Due.is("keep three once more", t.keep(), FULL);
    Due.is("back", t.back(), 1);
    Due.is("back to the first", t.back(), 0);
    for (int w = 0; w < 7; w++) Due.is("as kept first " + w, t.serf(0, w), first[w]);
    Due.is("DAYS as kept first", t.count(4), 0);
    Due.is("back no more", t.back(), NO);
    // keep can be done at any time and is no act
    t.move(0, 5);
    t.keep();
    Due.is("keep is no act", t.count(8), 1);
    Due.is("what is ahead of keep can be undone", t.undo(), 0);
    Due.is("kept is not undone", t.count(9), 1);
    t.seen(0, 1, 1);
    t.back();
    Due.is("kept in 5", t.serf(0, 2), 5);
    Due.is("what is SEEN is left", t.count(7), 1);
    // what is SEEN when one keeps does not come back
    t.keep();
    t.forget();
    t.back();
    Due.is("what was SEEN is not kept", t.count(7), 0);
  }

  // promise 28
  static void countsEmptyAndFull() {
    TownAir few = Due.laid("c2;n2;s0,0,0;");
    int[] least = {1, 0, 2, 2, 0, 0, 0, 0, 0, 0, 13};
    for (int i = 0; i <= 10; i++) Due.is("count of few " + i, few.count(i), least[i]);
    few.wipe();
    Due.is("no letters", few.count(10), 0);
    TownAir many = Due.laid("n60;c6;" + "s0,0,5;".repeat(3) + "s0,1,0;".repeat(3) + "m0,5,0;" + "m2,0,0;".repeat(4) + "n60;".repeat(26));
    passInAll(many, 999);
    for (int i = 0; i < 8; i++) many.seen(i % 6, 99, 3);
    many.keep();
    many.keep();
    for (int i = many.count(10); i < 200; i++) many.write('w');
    int[] most = {6, 5, 6, 60, 999, 3, 3, 8, 8, 2, 200};
    for (int i = 0; i <= 10; i++) Due.is("count of many " + i, many.count(i), most[i]);
    Due.is("count -1", many.count(-1), BAD);
    Due.is("count 11", many.count(11), BAD);
  }
}
