/** What the tests share: feeding texts, comparing answers, the exit code. */
final class Check {
  static final int NONE = -1, NOBODY = -2, UNKNOWN = -1000001, OUTSIDE = -1000002, NOT = -1000003, FULL = -1000004;
  private static int wrong = 0;
  private static int asked = 0;

  private Check() {}

  static void due(String call, long got, long want) {
    asked++;
    if (got != want) {
      wrong++;
      System.out.println(call + " answered " + got + ", due is " + want);
    }
  }

  static void feed(TwoRumours x, String text) {
    for (int i = 0; i < text.length(); i += 8) {
      String part = text.substring(i, Math.min(text.length(), i + 8));
      long bytes = 0;
      for (int k = 0; k < part.length(); k++) {
        bytes = bytes << 8 | part.charAt(k) & 255;
      }
      x.feed(part.length(), bytes);
    }
  }

  static int town(TwoRumours x, String text) {
    feed(x, text);
    return x.town();
  }

  static int sayings(TwoRumours x, String text) {
    feed(x, text);
    return x.sayings();
  }

  /** A new object with a town and sayings that have no fault. */
  static TwoRumours with(String townText, String sayingsText) {
    TwoRumours x = new TwoRumours();
    if (town(x, townText) < 0 || sayings(x, sayingsText) < 0) {
      wrong++;
      System.out.println("a text of a test has a fault: " + townText + " " + sayingsText);
    }
    return x;
  }

  /** How the n-th draw from a seed on comes out, reckoned apart from the program. */
  static int[] draws(long seed, int... of) {
    int[] answers = new int[of.length];
    long now = seed;
    for (int i = 0; i < of.length; i++) {
      now = (now * 1103515245L + 12345L) & 0x7fffffffL;
      answers[i] = (int) ((now >> 16) % of[i]);
    }
    return answers;
  }

  /** The least seed from 0 on whose draws are as wished; -1 is any. */
  static int seedFor(int[] of, int[] wished) {
    for (int seed = 0; seed < 100000000; seed++) {
      int[] got = draws(seed, of);
      boolean fits = true;
      for (int i = 0; i < of.length && fits; i++) {
        fits = wished[i] == -1 || wished[i] == got[i];
      }
      if (fits) {
        return seed;
      }
    }
    throw new IllegalStateException("no seed fits");
  }

  static void end() {
    System.out.println(asked + " answers looked at, " + wrong + " wrong");
    if (wrong != 0) {
      System.exit(1);
    }
  }
}
