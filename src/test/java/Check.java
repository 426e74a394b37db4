/** What the tests share: feeding texts, comparing answers, the exit code. */
final class Check {
  static final int NONE = -1, NOBODY = -2, UNKNOWN = -1000001, OUTSIDE = -1000002, NOT = -1000003, FULL = -1000004;
  private static int wrong = 0;
  private static int asked = 0;

  private Check() {}

  static void due(String call, long got, long want) {
    asked++;
    if (got != want) {
      wrong++;
      System.out.println(call + " answered " + got + ", due is " + want);
    }
  }

  static void feed(TwoRumours x, String text) {
    for (int i = 0; i < text.length(); i += 8) {
      String part = text.substring(i, Math.min(text.length(), i + 8));
      long bytes = 0;
      for (int k = 0; k < part.length(); k++) {
        bytes = bytes << 8 | part.charAt(k) & 255;
      }
      x.feed(part.length(), bytes);
    }
  }

  static int town(TwoRumours x, String text) {
    feed(x, text);
    return x.town();
  }

  static int sayings(TwoRumours x, String text) {
    feed(x, text);
    return x.sayings();
  }

  /** A new object with a town and sayings that have no fault. */
  static TwoRumours with(String townText, String sayingsText) {
    TwoRumours x = new TwoRumours();
    if (town(x, townText) < 0 || sayings(x, sayingsText) < 0) {
      wrong++;
      System.out.println("a text of a test has a fault: " + townText + " " + sayingsText);
    }
    return x;
  }

  /** How the n-th draw from a seed on comes out, reckoned apart from the program. */
  static int[] draws(long seed, int... of) {
    int[] answers = new int[of.length];
    long now = seed;
    for (int i = 0; i < of.length; i++) {
      now = (now * 1103515245L + 12345L) & 0x7fffffffL;
      answers[i] = (int) ((now >> 16) % of[i]);
    }
    return answers;
  }

  /** The least seed from 0 on whose draws are as wished; -1 is any. */
  static int seedFor(int[] of, int[] wished) {
    for (int seed = 0; seed < 100000000; seed++) {
      int[] got = draws(seed, of);
      boolean fits = true;
      for (int i = 0; i < of.length && fits; i++) {
        fits = wished[i] == -1 || wished[i] == got[i];
      }
      if (fits) {
        return seed;
      }
    }
    throw new IllegalStateException("no seed fits");
  }

  /** The least seed from 0 on whose draws lie each from a least to a most. */
  static int seedWithin(int[] of, int[] least, int[] most) {
    for (int seed = 0; seed < 100000000; seed++) {
      int[] got = draws(seed, of);
      boolean fits = true;
      for (int i = 0; i < of.length && fits; i++) {
        fits = got[i] >= least[i] && got[i] <= most[i];
      }
      if (fits) {
        return seed;
      }
    }
    throw new IllegalStateException("no seed fits");
  }

  /** What the seed is behind so many draws. */
  static long seedBehind(long seed, int draws) {
    long now = seed;
    for (int k = 0; k < draws; k++) {
      now = (now * 1103515245L + 12345L) & 0x7fffffffL;
    }
    return now;
  }

  static int seedOf(TwoRumours x) {
    int seed = x.seed(0);
    x.seed(seed);
    return seed;
  }

  /** A text read as a town by a new object: the fault's number and place, 0 and NONE without one. */
  static void townFault(String text, int number, int place) {
    TwoRumours x = new TwoRumours();
    int got = town(x, text);
    due("town '" + text + "'", number == 0 ? Math.min(got, 0) : got, number == 0 ? 0 : -10 - number);
    due("fault of town '" + text + "'", x.fault(), place);
    due("the text is empty behind '" + text + "'", x.count(3), 0);
  }

  static void sayingsFault(String text, int number, int place) {
    TwoRumours x = new TwoRumours();
    int got = sayings(x, text);
    due("sayings '" + text + "'", number == 0 ? Math.min(got, 0) : got, number == 0 ? 0 : -10 - number);
    due("fault of sayings '" + text + "'", x.fault(), place);
    due("the text is empty behind '" + text + "'", x.count(3), 0);
  }

  static void same(String what, String got, String want) {
    asked++;
    if (!got.equals(want)) {
      wrong++;
      System.out.println(what + ":\n  " + got + "\n  due is\n  " + want);
    }
  }

  static void end() {
    System.out.println(asked + " answers looked at, " + wrong + " wrong");
    if (wrong != 0) {
      System.exit(1);
    }
  }
}
