/** What the tests share: answers that are due, and towns told in short. */
final class Due {
  private static int wrong = 0;
  private static int asked = 0;

  static final String FIRST = "n9;c4;g2;s0,0,1;s1,0,2;s2,1,3;s3,1,0;s0,2,0;m0,0,1;m1,1,2;w0,3;w2,6;w5,9;w3,5;";

  private Due() { }

  static void is(String what, long got, long want) {
    asked++;
    if (got != want) {
      wrong++;
      System.out.println(what + " answered " + got + ", due is " + want);
    }
  }

  static void write(TownAir town, String text) {
    for (int i = 0; i < text.length(); i++) town.write(text.charAt(i));
  }

  static TownAir laid(String text) {
    TownAir town = new TownAir();
    write(town, text);
    int serfs = text.split("s", -1).length - 1;
    is("lay() of " + text, town.lay(), serfs);
    return town;
  }

  static int wrongSoFar() {
    return wrong;
  }

  static void end() {
    System.out.println(asked + " answers, " + wrong + " of them not as due");
    if (wrong != 0) System.exit(1);
  }
}
